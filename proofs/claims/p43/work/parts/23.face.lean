theorem fit01 {x : Int32} (h : x = 0 ∨ x = 1) : fits .boolean (.int x) = true := by
  rcases h with h | h <;> subst h <;> rfl
section ROWQ
variable {p : Program} {l : Launch} {e : Env} {R : Room} {s : State} {m : MethodId} {args : Array Value} {below : List Frame} {meth : Method} {c : Code} {H : Heap} {locs : List Loc} {cells slots : Nat} {Q : State → Prop}
variable {cc : ByteArray} {pc : Nat} {ls : Array Slot} {rest : List Value} {D : va_G} {cl : List vw_C} {A : Nat → Prop} {a : Nat} {tys : List (ClassId × FieldType)} {ws : va_W} {H0 : Heap}
theorem lv_topv {x y : Value} (h : x = y) (k : W p l e R s m args below meth c H locs cells slots Q (F0 m pc ls (y :: rest))) : W p l e R s m args below meth c H locs cells slots Q (F0 m pc ls (x :: rest)) := by rw [h]; exact k
theorem wa_aldq (hexec : p.tables.exec = Jvm.exec) (hb : c.code = cc) (hK : va_K D cl tys s) (hP : va_P D cl ws H) (q0 t0 : Nat) {cA : ClassId} {C : String} {n : Nat} {f : Nat → Option Nat} (ha : ws[q0]? = some (a, .inl (cA, n, .inr (.inr (.inr (.inr f)))))) (ht : tys[t0]? = some (cA, .object C)) {i : Nat} (hi : i < n) (hn : n < 2 ^ 31) {r : Nat} (hf : f i = some r) (hdg : decode cc pc = .ok (.aaload, 1))
    (kk : W p l e R s m args below meth c H locs cells slots Q (F0 m (pc + 1) ls (.ref r :: rest))) : W p l e R s m args below meth c H locs cells slots Q (F0 m pc ls (.int (nI i) :: .ref a :: rest)) :=
  va_aldq hexec hb hK hP q0 t0 ha ht (vp_in_nI hi hn) hdg (by rw [nI_clamp (Nat.lt_trans hi hn), hf]; exact kk)
end ROWQ
def kdI (cd : Nat) (ak db ki : Int32) : Int32 := if cd = 0 then 1 else if ak = 0 then (if db < ki - 1 then 0 else 1) else 1
theorem kdI_01 (cd : Nat) (ak db ki : Int32) : kdI cd ak db ki = 0 ∨ kdI cd ak db ki = 1 := by
  unfold kdI
  split
  · exact Or.inr rfl
  · split
    · split
      · exact Or.inl rfl
      · exact Or.inr rfl
    · exact Or.inr rfl
theorem isW1 {x a b : Int32} (h : a.toInt ≤ x.toInt ∧ x.toInt ≤ b.toInt) : isWithinI x a b = 1 := by
  unfold isWithinI
  rw [if_neg (by rw [Int32.lt_iff_toInt_lt]; omega), if_neg (by rw [Int32.lt_iff_toInt_lt]; omega)]
theorem isW_no {r x a b : Int32} (h : r = isWithinI x a b) (h1 : a.toInt ≤ x.toInt ∧ x.toInt ≤ b.toInt) (c : r = 0) : False := by
  rw [h, isW1 h1] at c
  exact absurd c (by decide)
theorem rng_upd {f : Nat → Int32} {n : Nat} (h : rng f n) {k : Nat} {x : Int32} (hx : 0 ≤ x.toInt ∧ x.toInt ≤ 255) : rng (upd f k x) n := by
  intro j hj
  unfold upd
  split
  · exact hx
  · exact h j hj
theorem maxI_0 (x : Int32) : 0 ≤ (maxI x 0).toInt ∧ x.toInt ≤ (maxI x 0).toInt ∧ ((maxI x 0).toInt = x.toInt ∨ (maxI x 0).toInt = 0) := by
  unfold maxI
  split
  · rename_i h
    rw [Int32.lt_iff_toInt_lt, ti_0] at h
    rw [ti_0]; omega
  · rename_i h
    rw [Int32.lt_iff_toInt_lt, ti_0] at h
    omega
def mxN (x : Int32) : Nat := (maxI x 0).toNatClampNeg
theorem gn_of {x : Int32} (h : 0 ≤ x.toInt) : x = nI x.toNatClampNeg := by
  have h2 := x.toInt_lt
  apply Int32.toInt_inj.mp
  show x.toInt = (nI x.toInt.toNat).toInt
  rw [nI_toInt (by omega)]
  omega
theorem mxN_eq (x : Int32) : maxI x 0 = nI (mxN x) := gn_of (maxI_0 x).1
theorem mxN_le {x : Int32} (h : x.toInt ≤ 32) : mxN x ≤ 32 := by
  have := maxI_0 x
  show (maxI x 0).toInt.toNat ≤ 32
  omega
theorem minI_le (x y : Int32) : (minI x y).toInt ≤ y.toInt := by
  unfold minI
  split
  · omega
  · rename_i h; rw [Int32.lt_iff_toInt_lt] at h; omega
theorem min_lt {x b : Int32} {k : Nat} (c : ¬ minI x b ≤ nI k) (hk : k < 2147483648) : (k : Int) < b.toInt := by
  rw [Int32.le_iff_toInt_le, nI_toInt (by omega)] at c
  have := minI_le x b
  omega
theorem ti_24 : (24 : Int32).toInt = 24 := by decide
theorem ti_32 : (32 : Int32).toInt = 32 := by decide
theorem min_24 {x : Int32} {k : Nat} (c : ¬ minI x 24 ≤ nI k) (hk : k ≤ 32) : k < 24 := by
  have := min_lt c (by omega); rw [ti_24] at this; omega
theorem min_32 {x : Int32} {k : Nat} (c : ¬ minI x 32 ≤ nI k) (hk : k ≤ 32) : k < 32 := by
  have := min_lt c (by omega); rw [ti_32] at this; omega
def orN (x n : Int32) : Nat := (maxI 0 (minI x (n - 1))).toNatClampNeg
theorem maxI_c (x : Int32) : 0 ≤ (maxI 0 x).toInt ∧ ((maxI 0 x).toInt = x.toInt ∨ (maxI 0 x).toInt = 0) := by
  unfold maxI
  split
  · rename_i h; rw [Int32.lt_iff_toInt_lt, ti_0] at h; omega
  · rw [ti_0]; omega
theorem orN_eq (x n : Int32) : maxI 0 (minI x (n - 1)) = nI (orN x n) := gn_of (maxI_c _).1
theorem orN_32 (x : Int32) : orN x 32 < 32 := by
  have h := maxI_c (minI x (32 - 1))
  have h2 := minI_le x (32 - 1)
  rw [show ((32 : Int32) - 1).toInt = 31 by decide] at h2
  show (maxI 0 (minI x (32 - 1))).toInt.toNat < 32
  omega
theorem orN_24 (x : Int32) : orN x 24 < 24 := by
  have h := maxI_c (minI x (24 - 1))
  have h2 := minI_le x (24 - 1)
  rw [show ((24 : Int32) - 1).toInt = 23 by decide] at h2
  show (maxI 0 (minI x (24 - 1))).toInt.toNat < 24
  omega
theorem gn_ne0 {n : Nat} (h : 0 < n) (h2 : n < 2147483648) : ¬ nI n = 0 := fun z => by
  have := congrArg Int32.toInt z
  rw [nI_toInt (by omega), ti_0] at this
  omega
set_option maxHeartbeats 4000000 in
set_option maxRecDepth 100000 in
theorem C_X5_pictureOrNull_s (l : Launch) (dC : Nat → ClassId) (dI : Nat → Nat → Nat) (cI cZ cP : ClassId) (N0 tO : Nat) (g0 gC gR c0 w0 v0 gB p0 cd : Nat) (db st bw ki sg ak : Int32) (fr : Nat → Option Nat) (i r0 : Nat) (hi : i < cd) (hcd : cd ≤ 24) (hfr : fr i = some r0) : Met l yX5_pictureOrNull wsX5_pictureOrNull ({ frames := 0, cells := 0, slots := 0, locals := 0 } : Room) (Gv (dC, dI) cI cZ cP N0 tO [.ref g0, .int (nI i)] (fun H => va_P (dC, dI) vwCl [(g0, .inr (5, [.ref gC, .ref gR, .ref c0, .ref w0, .ref v0, .ref gB, .ref p0, .int (nI cd), .int db, .int st, .int bw, .int ki, .int sg, .int ak])), (gR, .inl (cP, 24, .inr (.inr (.inr (.inr fr)))))] H)) (va_Sq (fun r : Option Nat => r = some r0)) 0 0 (fun _ => False) := by
  refine Met.ofW (cc := cX5_pictureOrNull) (maxL := 2) (ret := (some (.object "GreyReel$Picture"))) (by decide) rfl ?_
  intro p e s m args below meth c s₁ B hml hv
  obtain ⟨rfl, hE, hP⟩ := hv
  have hx := B.exec
  have hb := B.bytes
  have hr := B.returns
  have hts := atoms_spec (ws := wsX5_pictureOrNull) B.pre
  have hown : s.vm.findClass RX5 = some m.cls := findClass_of_methodNamed B.named
  have hlocks := B.notSynchronized
  have hK := hE.1
  have hNS := hE.2.1
  have hP : va_P (dC, dI) vwCl [(g0, .inr (5, [.ref gC, .ref gR, .ref c0, .ref w0, .ref v0, .ref gB, .ref p0, .int (nI cd), .int db, .int st, .int bw, .int ki, .int sg, .int ak])), (gR, .inl (cP, 24, .inr (.inr (.inr (.inr fr)))))] s.heap := hP
  have hinX5 : ∀ w ∈ wsX50, w ∈ wsX5_pictureOrNull := by decide +kernel
  have hl := lv_entry ([.ref g0, .int (nI i)]) (n := 2) (Nat.le_of_ble_eq_true rfl)
  rw [lg_entry_eq]
  generalize (lg_sl ([.ref g0, .int (nI i)]) ++ List.replicate (2 - (lg_sl ([.ref g0, .int (nI i)])).length) Slot.unset).toArray = ls at hl ⊢
  have hl : lv_has ls 2 [(0, .ref g0), (1, .int (nI i))] := hl
  refine lv_iload_n hx hb dX5_pictureOrNull_0 rfl (lv_at hl 1 rfl) ?_
  refine lv_if_lt (tgt := 18) hx hb dX5_pictureOrNull_1 (by decide) (fun c1 => ?_) (fun c1 => ?_)
  · skip
    have c1 : i < 0 := (nI_ltI (a := i) (b := 0) (by omega) (by omega)).mp c1
    exact False.elim (by omega)
  · skip
    have c1 : ¬ i < 0 := fun z => c1 ((nI_ltI (a := i) (b := 0) (by omega) (by omega)).mpr z)
    refine lv_iload_n hx hb dX5_pictureOrNull_4 rfl (lv_at hl 1 rfl) ?_
    refine lv_aload_n hx hb dX5_pictureOrNull_5 rfl (lv_at hl 0 rfl) ?_
    refine va_get (D := (dC, dI)) (ci := 5) (v := .int (nI cd)) (C := RX5) (T := TX5) (N := 14) hx hb hts hinX5 hown hK hP 0 rfl rfl 7 (by decide) (hts (.fieldLink RX5 48 "GreyReel" "coded" "I") (List.mem_of_getElem? (i := 1) (by decide +kernel))) (fun _ h9 => h9) rfl dX5_pictureOrNull_6 ?_
    refine lv_icmp_ge (tgt := 18) hx hb dX5_pictureOrNull_9 (by decide) (fun c9 => ?_) (fun c9 => ?_)
    · skip
      have c9 : cd ≤ i := (nI_leI (a := cd) (b := i) (by omega) (by omega)).mp c9
      exact False.elim (by omega)
    · skip
      have c9 : ¬ cd ≤ i := fun z => c9 ((nI_leI (a := cd) (b := i) (by omega) (by omega)).mpr z)
      refine lv_iload_n hx hb dX5_pictureOrNull_12 rfl (lv_at hl 1 rfl) ?_
      refine lv_bipush (v := 24) hx hb dX5_pictureOrNull_13 (by decide +kernel) ?_
      refine lv_icmp_lt (tgt := 22) hx hb dX5_pictureOrNull_15 (by decide) (fun c15 => ?_) (fun c15 => ?_)
      · skip
        have c15 : i < 24 := (nI_ltI (a := i) (b := 24) (by omega) (by omega)).mp c15
        refine lv_aload_n hx hb dX5_pictureOrNull_22 rfl (lv_at hl 0 rfl) ?_
        refine va_get (D := (dC, dI)) (ci := 5) (v := .ref gR) (C := RX5) (T := TX5) (N := 14) hx hb hts hinX5 hown hK hP 0 rfl rfl 1 (by decide) (hts (.fieldLink RX5 15 "GreyReel" "reel" "[LGreyReel$Picture;") (List.mem_of_getElem? (i := 2) (by decide +kernel))) (fun _ h9 => h9) rfl dX5_pictureOrNull_23 ?_
        refine lv_iload_n hx hb dX5_pictureOrNull_26 rfl (lv_at hl 1 rfl) ?_
        refine wa_aldq (D := (dC, dI)) (i := i) (f := fr) hx hb hK hP 1 2 rfl rfl (by omega) (by omega) hfr dX5_pictureOrNull_27 ?_
        exact W.aret (v := .ref r0) hx hb hr (Or.inl ⟨_, rfl⟩) (Or.inr ⟨_, rfl⟩) (fun t ht hW => ⟨some r0, rfl, rfl, ht⟩) (fun _ h => by cases h) dX5_pictureOrNull_28
      · skip
        have c15 : ¬ i < 24 := fun z => c15 ((nI_ltI (a := i) (b := 24) (by omega) (by omega)).mpr z)
        exact False.elim (by omega)
set_option maxHeartbeats 4000000 in
set_option maxRecDepth 100000 in
theorem C_X5_pictureOrNull_e (l : Launch) (dC : Nat → ClassId) (dI : Nat → Nat → Nat) (cI cZ cP : ClassId) (N0 tO : Nat) (g0 gC gR c0 w0 v0 gB p0 cd : Nat) (db st bw ki sg ak : Int32) (fr : Nat → Option Nat) (i : Nat) (hi : cd ≤ i) (hi2 : i ≤ 24) : Met l yX5_pictureOrNull wsX5_pictureOrNull ({ frames := 0, cells := 0, slots := 0, locals := 0 } : Room) (Gv (dC, dI) cI cZ cP N0 tO [.ref g0, .int (nI i)] (fun H => va_P (dC, dI) vwCl [(g0, .inr (5, [.ref gC, .ref gR, .ref c0, .ref w0, .ref v0, .ref gB, .ref p0, .int (nI cd), .int db, .int st, .int bw, .int ki, .int sg, .int ak])), (gR, .inl (cP, 24, .inr (.inr (.inr (.inr fr)))))] H)) (va_Sq (fun r : Option Nat => r = none)) 0 0 (fun _ => False) := by
  refine Met.ofW (cc := cX5_pictureOrNull) (maxL := 2) (ret := (some (.object "GreyReel$Picture"))) (by decide) rfl ?_
  intro p e s m args below meth c s₁ B hml hv
  obtain ⟨rfl, hE, hP⟩ := hv
  have hx := B.exec
  have hb := B.bytes
  have hr := B.returns
  have hts := atoms_spec (ws := wsX5_pictureOrNull) B.pre
  have hown : s.vm.findClass RX5 = some m.cls := findClass_of_methodNamed B.named
  have hlocks := B.notSynchronized
  have hK := hE.1
  have hNS := hE.2.1
  have hP : va_P (dC, dI) vwCl [(g0, .inr (5, [.ref gC, .ref gR, .ref c0, .ref w0, .ref v0, .ref gB, .ref p0, .int (nI cd), .int db, .int st, .int bw, .int ki, .int sg, .int ak])), (gR, .inl (cP, 24, .inr (.inr (.inr (.inr fr)))))] s.heap := hP
  have hinX5 : ∀ w ∈ wsX50, w ∈ wsX5_pictureOrNull := by decide +kernel
  have hl := lv_entry ([.ref g0, .int (nI i)]) (n := 2) (Nat.le_of_ble_eq_true rfl)
  rw [lg_entry_eq]
  generalize (lg_sl ([.ref g0, .int (nI i)]) ++ List.replicate (2 - (lg_sl ([.ref g0, .int (nI i)])).length) Slot.unset).toArray = ls at hl ⊢
  have hl : lv_has ls 2 [(0, .ref g0), (1, .int (nI i))] := hl
  refine lv_iload_n hx hb dX5_pictureOrNull_0 rfl (lv_at hl 1 rfl) ?_
  refine lv_if_lt (tgt := 18) hx hb dX5_pictureOrNull_1 (by decide) (fun c1 => ?_) (fun c1 => ?_)
  · skip
    have c1 : i < 0 := (nI_ltI (a := i) (b := 0) (by omega) (by omega)).mp c1
    exact False.elim (by omega)
  · skip
    have c1 : ¬ i < 0 := fun z => c1 ((nI_ltI (a := i) (b := 0) (by omega) (by omega)).mpr z)
    refine lv_iload_n hx hb dX5_pictureOrNull_4 rfl (lv_at hl 1 rfl) ?_
    refine lv_aload_n hx hb dX5_pictureOrNull_5 rfl (lv_at hl 0 rfl) ?_
    refine va_get (D := (dC, dI)) (ci := 5) (v := .int (nI cd)) (C := RX5) (T := TX5) (N := 14) hx hb hts hinX5 hown hK hP 0 rfl rfl 7 (by decide) (hts (.fieldLink RX5 48 "GreyReel" "coded" "I") (List.mem_of_getElem? (i := 1) (by decide +kernel))) (fun _ h9 => h9) rfl dX5_pictureOrNull_6 ?_
    refine lv_icmp_ge (tgt := 18) hx hb dX5_pictureOrNull_9 (by decide) (fun c9 => ?_) (fun c9 => ?_)
    · skip
      have c9 : cd ≤ i := (nI_leI (a := cd) (b := i) (by omega) (by omega)).mp c9
      refine lv_null hx hb dX5_pictureOrNull_18 ?_
      refine lv_goto (tgt := 28) hx hb dX5_pictureOrNull_19 (by decide) ?_
      exact W.aret (v := .null) hx hb hr (Or.inl ⟨_, rfl⟩) (Or.inl rfl) (fun t ht hW => ⟨none, rfl, rfl, ht⟩) (fun _ h => by cases h) dX5_pictureOrNull_28
    · skip
      have c9 : ¬ cd ≤ i := fun z => c9 ((nI_leI (a := cd) (b := i) (by omega) (by omega)).mpr z)
      exact False.elim (by omega)
set_option maxHeartbeats 4000000 in
set_option maxRecDepth 100000 in
theorem C_X5_pictureOrNull_m (l : Launch) (dC : Nat → ClassId) (dI : Nat → Nat → Nat) (cI cZ cP : ClassId) (N0 tO : Nat) (g0 gC gR c0 w0 v0 gB p0 cd : Nat) (db st bw ki sg ak : Int32) (fr : Nat → Option Nat) (x : Int32) (hx0 : x < 0) : Met l yX5_pictureOrNull wsX5_pictureOrNull ({ frames := 0, cells := 0, slots := 0, locals := 0 } : Room) (Gv (dC, dI) cI cZ cP N0 tO [.ref g0, .int x] (fun H => va_P (dC, dI) vwCl [(g0, .inr (5, [.ref gC, .ref gR, .ref c0, .ref w0, .ref v0, .ref gB, .ref p0, .int (nI cd), .int db, .int st, .int bw, .int ki, .int sg, .int ak])), (gR, .inl (cP, 24, .inr (.inr (.inr (.inr fr)))))] H)) (va_Sq (fun r : Option Nat => r = none)) 0 0 (fun _ => False) := by
  refine Met.ofW (cc := cX5_pictureOrNull) (maxL := 2) (ret := (some (.object "GreyReel$Picture"))) (by decide) rfl ?_
  intro p e s m args below meth c s₁ B hml hv
  obtain ⟨rfl, hE, hP⟩ := hv
  have hx := B.exec
  have hb := B.bytes
  have hr := B.returns
  have hts := atoms_spec (ws := wsX5_pictureOrNull) B.pre
  have hown : s.vm.findClass RX5 = some m.cls := findClass_of_methodNamed B.named
  have hlocks := B.notSynchronized
  have hK := hE.1
  have hNS := hE.2.1
  have hP : va_P (dC, dI) vwCl [(g0, .inr (5, [.ref gC, .ref gR, .ref c0, .ref w0, .ref v0, .ref gB, .ref p0, .int (nI cd), .int db, .int st, .int bw, .int ki, .int sg, .int ak])), (gR, .inl (cP, 24, .inr (.inr (.inr (.inr fr)))))] s.heap := hP
  have hinX5 : ∀ w ∈ wsX50, w ∈ wsX5_pictureOrNull := by decide +kernel
  have hl := lv_entry ([.ref g0, .int x]) (n := 2) (Nat.le_of_ble_eq_true rfl)
  rw [lg_entry_eq]
  generalize (lg_sl ([.ref g0, .int x]) ++ List.replicate (2 - (lg_sl ([.ref g0, .int x])).length) Slot.unset).toArray = ls at hl ⊢
  have hl : lv_has ls 2 [(0, .ref g0), (1, .int x)] := hl
  refine lv_iload_n hx hb dX5_pictureOrNull_0 rfl (lv_at hl 1 rfl) ?_
  refine lv_if_lt (tgt := 18) hx hb dX5_pictureOrNull_1 (by decide) (fun c1 => ?_) (fun c1 => ?_)
  · skip
    refine lv_null hx hb dX5_pictureOrNull_18 ?_
    refine lv_goto (tgt := 28) hx hb dX5_pictureOrNull_19 (by decide) ?_
    exact W.aret (v := .null) hx hb hr (Or.inl ⟨_, rfl⟩) (Or.inl rfl) (fun t ht hW => ⟨none, rfl, rfl, ht⟩) (fun _ h => by cases h) dX5_pictureOrNull_28
  · skip
    exact False.elim (c1 hx0)
set_option maxHeartbeats 4000000 in
set_option maxRecDepth 100000 in
theorem C_X5_pictureAt (l : Launch) (dC : Nat → ClassId) (dI : Nat → Nat → Nat) (cI cZ cP : ClassId) (N0 tO : Nat) (g0 gC gR c0 w0 v0 gB p0 cd : Nat) (db st bw ki sg ak : Int32) (fr : Nat → Option Nat) (i r0 : Nat) (hi : i < cd) (hcd : cd ≤ 24) (hfr : fr i = some r0) : Met l yX5_pictureAt wsX5_pictureAt ({ frames := 1, cells := 0, slots := 0, locals := 21 } : Room) (Gv (dC, dI) cI cZ cP N0 tO [.ref g0, .int (nI i)] (fun H => va_P (dC, dI) vwCl [(g0, .inr (5, [.ref gC, .ref gR, .ref c0, .ref w0, .ref v0, .ref gB, .ref p0, .int (nI cd), .int db, .int st, .int bw, .int ki, .int sg, .int ak])), (gR, .inl (cP, 24, .inr (.inr (.inr (.inr fr)))))] H)) (va_Sq (fun r : Option Nat => r = some r0)) 0 0 (fun _ => False) := by
  refine Met.ofW (cc := cX5_pictureAt) (maxL := 3) (ret := (some (.object "GreyReel$Picture"))) (by decide) rfl ?_
  intro p e s m args below meth c s₁ B hml hv
  obtain ⟨rfl, hE, hP⟩ := hv
  have hx := B.exec
  have hb := B.bytes
  have hr := B.returns
  have hts := atoms_spec (ws := wsX5_pictureAt) B.pre
  have hown : s.vm.findClass RX5 = some m.cls := findClass_of_methodNamed B.named
  have hlocks := B.notSynchronized
  have hK := hE.1
  have hNS := hE.2.1
  have hP : va_P (dC, dI) vwCl [(g0, .inr (5, [.ref gC, .ref gR, .ref c0, .ref w0, .ref v0, .ref gB, .ref p0, .int (nI cd), .int db, .int st, .int bw, .int ki, .int sg, .int ak])), (gR, .inl (cP, 24, .inr (.inr (.inr (.inr fr)))))] s.heap := hP
  have hl := lv_entry ([.ref g0, .int (nI i)]) (n := 3) (Nat.le_of_ble_eq_true rfl)
  rw [lg_entry_eq]
  generalize (lg_sl ([.ref g0, .int (nI i)]) ++ List.replicate (3 - (lg_sl ([.ref g0, .int (nI i)])).length) Slot.unset).toArray = ls at hl ⊢
  have hl : lv_has ls 3 [(0, .ref g0), (1, .int (nI i))] := hl
  refine lv_aload_n hx hb dX5_pictureAt_0 rfl (lv_at hl 0 rfl) ?_
  refine lv_iload_n hx hb dX5_pictureAt_1 rfl (lv_at hl 1 rfl) ?_
  refine va_csq (va_Run.run (va_runV (As := [.int (nI i)]) (rest := []) ⟨hx, hb, hml, hown, hts⟩ (C_X5_pictureOrNull_s l dC dI cI cZ cP N0 tO g0 gC gR c0 w0 v0 gB p0 cd db st bw ki sg ak fr i r0 hi hcd hfr) (cwV 1 hts gX5_pictureAt_X5_pictureOrNull rfl rfl rfl (by decide +kernel) ⟨Nat.le_of_ble_eq_true rfl, Nat.le_of_ble_eq_true rfl⟩) ⟨Gv.blind, va_recv hK hP (ci := 5) (q0 := 0) rfl rfl, Gv.of hE (hP.sub [0, 1] rfl)⟩ rfl rfl hl.1 rfl (lv_room (Nat.le_of_ble_eq_true rfl)) dX5_pictureAt_2 ⟨Nat.le_of_ble_eq_true rfl, Nat.le_of_ble_eq_true rfl⟩)) (fun r_1 hr_1 => ?_)
  refine lv_topv (show va_rf r_1 = .ref r0 from by rw [hr_1] <;> rfl) ?_
  refine lv_astore_n (lv' := [(2, .ref r0), (0, .ref g0), (1, .int (nI i))]) hx hb dX5_pictureAt_5 rfl hl (by decide) rfl (fun ls hl => ?_)
  refine lv_aload_n hx hb dX5_pictureAt_6 rfl (lv_at hl 0 rfl) ?_
  refine lv_ifnonnull (tgt := 21) hx hb dX5_pictureAt_7 (by decide) ?_
  refine lv_aload_n hx hb dX5_pictureAt_21 rfl (lv_at hl 0 rfl) ?_
  exact W.aret (v := .ref r0) hx hb hr (Or.inl ⟨_, rfl⟩) (Or.inr ⟨_, rfl⟩) (fun t ht hW => ⟨some r0, rfl, rfl, ht⟩) (fun _ h => by cases h) dX5_pictureAt_22
set_option maxHeartbeats 4000000 in
set_option maxRecDepth 100000 in
theorem C_X5_pictures (l : Launch) (dC : Nat → ClassId) (dI : Nat → Nat → Nat) (cI cZ cP : ClassId) (N0 tO : Nat) (g0 gC gR c0 w0 v0 gB p0 cd : Nat) (db st bw ki sg ak : Int32)  : Met l yX5_pictures wsX5_pictures ({ frames := 0, cells := 0, slots := 0, locals := 0 } : Room) (Gv (dC, dI) cI cZ cP N0 tO [.ref g0] (fun H => va_P (dC, dI) vwCl [(g0, .inr (5, [.ref gC, .ref gR, .ref c0, .ref w0, .ref v0, .ref gB, .ref p0, .int (nI cd), .int db, .int st, .int bw, .int ki, .int sg, .int ak]))] H)) (vp_Si (fun r : Int32 => r = nI cd)) 0 0 (fun _ => False) := by
  refine Met.ofW (cc := cX5_pictures) (maxL := 1) (ret := (some .int)) (by decide) rfl ?_
  intro p e s m args below meth c s₁ B hml hv
  obtain ⟨rfl, hE, hP⟩ := hv
  have hx := B.exec
  have hb := B.bytes
  have hr := B.returns
  have hts := atoms_spec (ws := wsX5_pictures) B.pre
  have hown : s.vm.findClass RX5 = some m.cls := findClass_of_methodNamed B.named
  have hlocks := B.notSynchronized
  have hK := hE.1
  have hNS := hE.2.1
  have hP : va_P (dC, dI) vwCl [(g0, .inr (5, [.ref gC, .ref gR, .ref c0, .ref w0, .ref v0, .ref gB, .ref p0, .int (nI cd), .int db, .int st, .int bw, .int ki, .int sg, .int ak]))] s.heap := hP
  have hinX5 : ∀ w ∈ wsX50, w ∈ wsX5_pictures := by decide +kernel
  have hl := lv_entry ([.ref g0]) (n := 1) (Nat.le_of_ble_eq_true rfl)
  rw [lg_entry_eq]
  generalize (lg_sl ([.ref g0]) ++ List.replicate (1 - (lg_sl ([.ref g0])).length) Slot.unset).toArray = ls at hl ⊢
  have hl : lv_has ls 1 [(0, .ref g0)] := hl
  refine lv_aload_n hx hb dX5_pictures_0 rfl (lv_at hl 0 rfl) ?_
  refine va_get (D := (dC, dI)) (ci := 5) (v := .int (nI cd)) (C := RX5) (T := TX5) (N := 14) hx hb hts hinX5 hown hK hP 0 rfl rfl 7 (by decide) (hts (.fieldLink RX5 48 "GreyReel" "coded" "I") (List.mem_of_getElem? (i := 1) (by decide +kernel))) (fun _ h9 => h9) rfl dX5_pictures_1 ?_
  exact W.iret (v := nI cd) hx hb hr (fun t ht hW => ⟨nI cd, rfl, rfl, ht⟩) (fun _ h => by cases h) dX5_pictures_4
set_option maxHeartbeats 4000000 in
set_option maxRecDepth 100000 in
theorem C_X5_step (l : Launch) (dC : Nat → ClassId) (dI : Nat → Nat → Nat) (cI cZ cP : ClassId) (N0 tO : Nat) (g0 gC gR c0 w0 v0 gB p0 cd : Nat) (db st bw ki sg ak : Int32)  : Met l yX5_step wsX5_step ({ frames := 0, cells := 0, slots := 0, locals := 0 } : Room) (Gv (dC, dI) cI cZ cP N0 tO [.ref g0] (fun H => va_P (dC, dI) vwCl [(g0, .inr (5, [.ref gC, .ref gR, .ref c0, .ref w0, .ref v0, .ref gB, .ref p0, .int (nI cd), .int db, .int st, .int bw, .int ki, .int sg, .int ak]))] H)) (vp_Si (fun r : Int32 => r = st)) 0 0 (fun _ => False) := by
  refine Met.ofW (cc := cX5_step) (maxL := 1) (ret := (some .int)) (by decide) rfl ?_
  intro p e s m args below meth c s₁ B hml hv
  obtain ⟨rfl, hE, hP⟩ := hv
  have hx := B.exec
  have hb := B.bytes
  have hr := B.returns
  have hts := atoms_spec (ws := wsX5_step) B.pre
  have hown : s.vm.findClass RX5 = some m.cls := findClass_of_methodNamed B.named
  have hlocks := B.notSynchronized
  have hK := hE.1
  have hNS := hE.2.1
  have hP : va_P (dC, dI) vwCl [(g0, .inr (5, [.ref gC, .ref gR, .ref c0, .ref w0, .ref v0, .ref gB, .ref p0, .int (nI cd), .int db, .int st, .int bw, .int ki, .int sg, .int ak]))] s.heap := hP
  have hinX5 : ∀ w ∈ wsX50, w ∈ wsX5_step := by decide +kernel
  have hl := lv_entry ([.ref g0]) (n := 1) (Nat.le_of_ble_eq_true rfl)
  rw [lg_entry_eq]
  generalize (lg_sl ([.ref g0]) ++ List.replicate (1 - (lg_sl ([.ref g0])).length) Slot.unset).toArray = ls at hl ⊢
  have hl : lv_has ls 1 [(0, .ref g0)] := hl
  refine lv_aload_n hx hb dX5_step_0 rfl (lv_at hl 0 rfl) ?_
  refine va_get (D := (dC, dI)) (ci := 5) (v := .int st) (C := RX5) (T := TX5) (N := 14) hx hb hts hinX5 hown hK hP 0 rfl rfl 9 (by decide) (hts (.fieldLink RX5 55 "GreyReel" "nextStep" "I") (List.mem_of_getElem? (i := 1) (by decide +kernel))) (fun _ h9 => h9) rfl dX5_step_1 ?_
  exact W.iret (v := st) hx hb hr (fun t ht hW => ⟨st, rfl, rfl, ht⟩) (fun _ h => by cases h) dX5_step_4
set_option maxHeartbeats 4000000 in
set_option maxRecDepth 100000 in
theorem C_X5_shown (l : Launch) (dC : Nat → ClassId) (dI : Nat → Nat → Nat) (cI cZ cP : ClassId) (N0 tO : Nat) (g0 gC gR c0 w0 v0 gB p0 cd : Nat) (db st bw ki sg ak : Int32) (h0 sc shn : Nat)  : Met l yX5_shown wsX5_shown ({ frames := 0, cells := 0, slots := 0, locals := 0 } : Room) (Gv (dC, dI) cI cZ cP N0 tO [.ref g0] (fun H => va_P (dC, dI) vwCl [(g0, .inr (5, [.ref gC, .ref gR, .ref c0, .ref w0, .ref v0, .ref gB, .ref p0, .int (nI cd), .int db, .int st, .int bw, .int ki, .int sg, .int ak])), (v0, .inr (4, [.ref h0, .ref sc, .int (nI shn)]))] H)) (vp_Si (fun r : Int32 => r = nI shn)) 0 0 (fun _ => False) := by
  refine Met.ofW (cc := cX5_shown) (maxL := 1) (ret := (some .int)) (by decide) rfl ?_
  intro p e s m args below meth c s₁ B hml hv
  obtain ⟨rfl, hE, hP⟩ := hv
  have hx := B.exec
  have hb := B.bytes
  have hr := B.returns
  have hts := atoms_spec (ws := wsX5_shown) B.pre
  have hown : s.vm.findClass RX5 = some m.cls := findClass_of_methodNamed B.named
  have hlocks := B.notSynchronized
  have hK := hE.1
  have hNS := hE.2.1
  have hP : va_P (dC, dI) vwCl [(g0, .inr (5, [.ref gC, .ref gR, .ref c0, .ref w0, .ref v0, .ref gB, .ref p0, .int (nI cd), .int db, .int st, .int bw, .int ki, .int sg, .int ak])), (v0, .inr (4, [.ref h0, .ref sc, .int (nI shn)]))] s.heap := hP
  have hinX4 : ∀ w ∈ wsX40, w ∈ wsX5_shown := by decide +kernel
  have hinX5 : ∀ w ∈ wsX50, w ∈ wsX5_shown := by decide +kernel
  have hl := lv_entry ([.ref g0]) (n := 1) (Nat.le_of_ble_eq_true rfl)
  rw [lg_entry_eq]
  generalize (lg_sl ([.ref g0]) ++ List.replicate (1 - (lg_sl ([.ref g0])).length) Slot.unset).toArray = ls at hl ⊢
  have hl : lv_has ls 1 [(0, .ref g0)] := hl
  refine lv_aload_n hx hb dX5_shown_0 rfl (lv_at hl 0 rfl) ?_
  refine va_get (D := (dC, dI)) (ci := 5) (v := .ref v0) (C := RX5) (T := TX5) (N := 14) hx hb hts hinX5 hown hK hP 0 rfl rfl 4 (by decide) (hts (.fieldLink RX5 36 "GreyReel" "viewer" "LGreyReel$Viewer;") (List.mem_of_getElem? (i := 1) (by decide +kernel))) (fun _ h9 => h9) rfl dX5_shown_1 ?_
  refine va_get (D := (dC, dI)) (ci := 4) (v := .int (nI shn)) (C := RX4) (T := TX4) (N := 3) hx hb hts hinX4 hown hK hP 1 rfl rfl 2 (by decide) (hts (.fieldLink RX5 208 "GreyReel$Viewer" "shownPictures" "I") (List.mem_of_getElem? (i := 2) (by decide +kernel))) (fun _ h9 => h9) rfl dX5_shown_4 ?_
  exact W.iret (v := nI shn) hx hb hr (fun t ht hW => ⟨nI shn, rfl, rfl, ht⟩) (fun _ h => by cases h) dX5_shown_7
set_option maxHeartbeats 4000000 in
set_option maxRecDepth 100000 in
theorem C_X5_shownAt (l : Launch) (dC : Nat → ClassId) (dI : Nat → Nat → Nat) (cI cZ cP : ClassId) (N0 tO : Nat) (g0 gC gR c0 w0 v0 gB p0 cd : Nat) (db st bw ki sg ak : Int32) (h0 sc shn : Nat) (fs : Nat → Int32) (x y : Nat) (h1 : x < 32) (h2 : y < 24) : Met l yX5_shownAt wsX5_shownAt ({ frames := 3, cells := 0, slots := 0, locals := 63 } : Room) (Gv (dC, dI) cI cZ cP N0 tO [.ref g0, .int (nI x), .int (nI y)] (fun H => va_P (dC, dI) vwCl [(g0, .inr (5, [.ref gC, .ref gR, .ref c0, .ref w0, .ref v0, .ref gB, .ref p0, .int (nI cd), .int db, .int st, .int bw, .int ki, .int sg, .int ak])), (v0, .inr (4, [.ref h0, .ref sc, .int (nI shn)])), (sc, .inl (cI, 768, .inl fs))] H)) (vp_Si (fun r : Int32 => r = fs (y * 32 + x))) 0 0 (fun _ => False) := by
  refine Met.ofW (cc := cX5_shownAt) (maxL := 3) (ret := (some .int)) (by decide) rfl ?_
  intro p e s m args below meth c s₁ B hml hv
  obtain ⟨rfl, hE, hP⟩ := hv
  have hx := B.exec
  have hb := B.bytes
  have hr := B.returns
  have hts := atoms_spec (ws := wsX5_shownAt) B.pre
  have hown : s.vm.findClass RX5 = some m.cls := findClass_of_methodNamed B.named
  have hlocks := B.notSynchronized
  have hK := hE.1
  have hNS := hE.2.1
  have hP : va_P (dC, dI) vwCl [(g0, .inr (5, [.ref gC, .ref gR, .ref c0, .ref w0, .ref v0, .ref gB, .ref p0, .int (nI cd), .int db, .int st, .int bw, .int ki, .int sg, .int ak])), (v0, .inr (4, [.ref h0, .ref sc, .int (nI shn)])), (sc, .inl (cI, 768, .inl fs))] s.heap := hP
  have hinX4 : ∀ w ∈ wsX40, w ∈ wsX5_shownAt := by decide +kernel
  have hinX5 : ∀ w ∈ wsX50, w ∈ wsX5_shownAt := by decide +kernel
  have hl := lv_entry ([.ref g0, .int (nI x), .int (nI y)]) (n := 3) (Nat.le_of_ble_eq_true rfl)
  rw [lg_entry_eq]
  generalize (lg_sl ([.ref g0, .int (nI x), .int (nI y)]) ++ List.replicate (3 - (lg_sl ([.ref g0, .int (nI x), .int (nI y)])).length) Slot.unset).toArray = ls at hl ⊢
  have hl : lv_has ls 3 [(0, .ref g0), (1, .int (nI x)), (2, .int (nI y))] := hl
  refine lv_aload_n hx hb dX5_shownAt_0 rfl (lv_at hl 0 rfl) ?_
  refine va_get (D := (dC, dI)) (ci := 5) (v := .ref v0) (C := RX5) (T := TX5) (N := 14) hx hb hts hinX5 hown hK hP 0 rfl rfl 4 (by decide) (hts (.fieldLink RX5 36 "GreyReel" "viewer" "LGreyReel$Viewer;") (List.mem_of_getElem? (i := 1) (by decide +kernel))) (fun _ h9 => h9) rfl dX5_shownAt_1 ?_
  refine va_get (D := (dC, dI)) (ci := 4) (v := .ref sc) (C := RX4) (T := TX4) (N := 3) hx hb hts hinX4 hown hK hP 1 rfl rfl 1 (by decide) (hts (.fieldLink RX5 228 "GreyReel$Viewer" "screen" "[I") (List.mem_of_getElem? (i := 2) (by decide +kernel))) (fun _ h9 => h9) rfl dX5_shownAt_4 ?_
  refine lv_iload_n hx hb dX5_shownAt_7 rfl (lv_at hl 1 rfl) ?_
  refine lv_iload_n hx hb dX5_shownAt_8 rfl (lv_at hl 2 rfl) ?_
  refine vp_callSi (va_Run.run (va_runS (As := [.int (nI x), .int (nI y)]) (rest := [.ref sc]) ⟨hx, hb, hml, hown, hts⟩ (C_X5_pointAt l dC dI cI cZ cP N0 tO x y h1 h2) (va_cwS 2 hts gX5_shownAt_X5_pointAt rfl rfl rfl (by decide +kernel) ⟨Nat.le_of_ble_eq_true rfl, Nat.le_of_ble_eq_true rfl⟩) ⟨Gv.blind, Gv.of hE trivial⟩ rfl rfl hl.1 rfl (lv_room (Nat.le_of_ble_eq_true rfl)) dX5_shownAt_9 ⟨Nat.le_of_ble_eq_true rfl, Nat.le_of_ble_eq_true rfl⟩)) (fun r_1 hr_1 => ?_)
  have hr_1 : r_1 = nI (y * 32 + x) := hr_1
  refine lv_topr hr_1 ?_
  refine wa_iald (D := (dC, dI)) (i := (y * 32 + x)) (f := fs) hx hb hK hP 2 0 rfl rfl (by omega) (by omega) dX5_shownAt_12 ?_
  exact W.iret (v := fs (y * 32 + x)) hx hb hr (fun t ht hW => ⟨fs (y * 32 + x), rfl, rfl, ht⟩) (fun _ h => by cases h) dX5_shownAt_13
set_option maxHeartbeats 4000000 in
set_option maxRecDepth 100000 in
theorem C_X5_isKey (l : Launch) (dC : Nat → ClassId) (dI : Nat → Nat → Nat) (cI cZ cP : ClassId) (N0 tO : Nat) (g0 gC gR c0 w0 v0 gB p0 cd : Nat) (db st bw ki sg ak : Int32) (fr : Nat → Option Nat) (i : Nat) (r0 rK rX rY rC rV rR rU rG rW : Nat) (rnum rq rer rky rsm : Int32) (hi : i < cd) (hcd : cd ≤ 24) (hfr : fr i = some r0) (hky : rky = 0 ∨ rky = 1) : Met l yX5_isKey wsX5_isKey ({ frames := 2, cells := 0, slots := 0, locals := 43 } : Room) (Gv (dC, dI) cI cZ cP N0 tO [.ref g0, .int (nI i)] (fun H => va_P (dC, dI) vwCl [(g0, .inr (5, [.ref gC, .ref gR, .ref c0, .ref w0, .ref v0, .ref gB, .ref p0, .int (nI cd), .int db, .int st, .int bw, .int ki, .int sg, .int ak])), (gR, .inl (cP, 24, .inr (.inr (.inr (.inr fr))))), (r0, .inr (2, [.ref rK, .ref rX, .ref rY, .ref rC, .ref rV, .ref rR, .ref rU, .ref rG, .ref rW, .int rnum, .int rq, .int rer, .int rky, .int rsm]))] H)) (vp_Si (fun r : Int32 => r = rky)) 0 0 (fun _ => False) := by
  refine Met.ofW (cc := cX5_isKey) (maxL := 2) (ret := (some .boolean)) (by decide) rfl ?_
  intro p e s m args below meth c s₁ B hml hv
  obtain ⟨rfl, hE, hP⟩ := hv
  have hx := B.exec
  have hb := B.bytes
  have hr := B.returns
  have hts := atoms_spec (ws := wsX5_isKey) B.pre
  have hown : s.vm.findClass RX5 = some m.cls := findClass_of_methodNamed B.named
  have hlocks := B.notSynchronized
  have hK := hE.1
  have hNS := hE.2.1
  have hP : va_P (dC, dI) vwCl [(g0, .inr (5, [.ref gC, .ref gR, .ref c0, .ref w0, .ref v0, .ref gB, .ref p0, .int (nI cd), .int db, .int st, .int bw, .int ki, .int sg, .int ak])), (gR, .inl (cP, 24, .inr (.inr (.inr (.inr fr))))), (r0, .inr (2, [.ref rK, .ref rX, .ref rY, .ref rC, .ref rV, .ref rR, .ref rU, .ref rG, .ref rW, .int rnum, .int rq, .int rer, .int rky, .int rsm]))] s.heap := hP
  have hinX2 : ∀ w ∈ wsX20, w ∈ wsX5_isKey := by decide +kernel
  have hl := lv_entry ([.ref g0, .int (nI i)]) (n := 2) (Nat.le_of_ble_eq_true rfl)
  rw [lg_entry_eq]
  generalize (lg_sl ([.ref g0, .int (nI i)]) ++ List.replicate (2 - (lg_sl ([.ref g0, .int (nI i)])).length) Slot.unset).toArray = ls at hl ⊢
  have hl : lv_has ls 2 [(0, .ref g0), (1, .int (nI i))] := hl
  refine lv_aload_n hx hb dX5_isKey_0 rfl (lv_at hl 0 rfl) ?_
  refine lv_iload_n hx hb dX5_isKey_1 rfl (lv_at hl 1 rfl) ?_
  refine va_csq (va_Run.run (va_runV (As := [.int (nI i)]) (rest := []) ⟨hx, hb, hml, hown, hts⟩ (C_X5_pictureAt l dC dI cI cZ cP N0 tO g0 gC gR c0 w0 v0 gB p0 cd db st bw ki sg ak fr i r0 hi hcd hfr) (cwV 1 hts gX5_isKey_X5_pictureAt rfl rfl rfl (by decide +kernel) ⟨Nat.le_of_ble_eq_true rfl, Nat.le_of_ble_eq_true rfl⟩) ⟨Gv.blind, va_recv hK hP (ci := 5) (q0 := 0) rfl rfl, Gv.of hE (hP.sub [0, 1] rfl)⟩ rfl rfl hl.1 rfl (lv_room (Nat.le_of_ble_eq_true rfl)) dX5_isKey_2 ⟨Nat.le_of_ble_eq_true rfl, Nat.le_of_ble_eq_true rfl⟩)) (fun r_1 hr_1 => ?_)
  refine lv_topv (show va_rf r_1 = .ref r0 from by rw [hr_1] <;> rfl) ?_
  refine va_get (D := (dC, dI)) (ci := 2) (v := .int rky) (C := RX2) (T := TX2) (N := 14) hx hb hts hinX2 hown hK hP 2 rfl rfl 12 (by decide) (hts (.fieldLink RX5 155 "GreyReel$Picture" "isKeyPicture" "Z") (List.mem_of_getElem? (i := 1) (by decide +kernel))) (fun _ h9 => h9) rfl dX5_isKey_5 ?_
  exact W.zret (v := rky) hx hb hr (nar01 hky) (fun t ht hW => ⟨rky, rfl, rfl, ht⟩) (fun _ h => by cases h) dX5_isKey_8
set_option maxHeartbeats 4000000 in
set_option maxRecDepth 100000 in
theorem C_X5_errorOf (l : Launch) (dC : Nat → ClassId) (dI : Nat → Nat → Nat) (cI cZ cP : ClassId) (N0 tO : Nat) (g0 gC gR c0 w0 v0 gB p0 cd : Nat) (db st bw ki sg ak : Int32) (fr : Nat → Option Nat) (i : Nat) (r0 rK rX rY rC rV rR rU rG rW : Nat) (rnum rq rer rky rsm : Int32) (hi : i < cd) (hcd : cd ≤ 24) (hfr : fr i = some r0) : Met l yX5_errorOf wsX5_errorOf ({ frames := 2, cells := 0, slots := 0, locals := 43 } : Room) (Gv (dC, dI) cI cZ cP N0 tO [.ref g0, .int (nI i)] (fun H => va_P (dC, dI) vwCl [(g0, .inr (5, [.ref gC, .ref gR, .ref c0, .ref w0, .ref v0, .ref gB, .ref p0, .int (nI cd), .int db, .int st, .int bw, .int ki, .int sg, .int ak])), (gR, .inl (cP, 24, .inr (.inr (.inr (.inr fr))))), (r0, .inr (2, [.ref rK, .ref rX, .ref rY, .ref rC, .ref rV, .ref rR, .ref rU, .ref rG, .ref rW, .int rnum, .int rq, .int rer, .int rky, .int rsm]))] H)) (vp_Si (fun r : Int32 => r = rer)) 0 0 (fun _ => False) := by
  refine Met.ofW (cc := cX5_errorOf) (maxL := 2) (ret := (some .int)) (by decide) rfl ?_
  intro p e s m args below meth c s₁ B hml hv
  obtain ⟨rfl, hE, hP⟩ := hv
  have hx := B.exec
  have hb := B.bytes
  have hr := B.returns
  have hts := atoms_spec (ws := wsX5_errorOf) B.pre
  have hown : s.vm.findClass RX5 = some m.cls := findClass_of_methodNamed B.named
  have hlocks := B.notSynchronized
  have hK := hE.1
  have hNS := hE.2.1
  have hP : va_P (dC, dI) vwCl [(g0, .inr (5, [.ref gC, .ref gR, .ref c0, .ref w0, .ref v0, .ref gB, .ref p0, .int (nI cd), .int db, .int st, .int bw, .int ki, .int sg, .int ak])), (gR, .inl (cP, 24, .inr (.inr (.inr (.inr fr))))), (r0, .inr (2, [.ref rK, .ref rX, .ref rY, .ref rC, .ref rV, .ref rR, .ref rU, .ref rG, .ref rW, .int rnum, .int rq, .int rer, .int rky, .int rsm]))] s.heap := hP
  have hinX2 : ∀ w ∈ wsX20, w ∈ wsX5_errorOf := by decide +kernel
  have hl := lv_entry ([.ref g0, .int (nI i)]) (n := 2) (Nat.le_of_ble_eq_true rfl)
  rw [lg_entry_eq]
  generalize (lg_sl ([.ref g0, .int (nI i)]) ++ List.replicate (2 - (lg_sl ([.ref g0, .int (nI i)])).length) Slot.unset).toArray = ls at hl ⊢
  have hl : lv_has ls 2 [(0, .ref g0), (1, .int (nI i))] := hl
  refine lv_aload_n hx hb dX5_errorOf_0 rfl (lv_at hl 0 rfl) ?_
  refine lv_iload_n hx hb dX5_errorOf_1 rfl (lv_at hl 1 rfl) ?_
  refine va_csq (va_Run.run (va_runV (As := [.int (nI i)]) (rest := []) ⟨hx, hb, hml, hown, hts⟩ (C_X5_pictureAt l dC dI cI cZ cP N0 tO g0 gC gR c0 w0 v0 gB p0 cd db st bw ki sg ak fr i r0 hi hcd hfr) (cwV 1 hts gX5_errorOf_X5_pictureAt rfl rfl rfl (by decide +kernel) ⟨Nat.le_of_ble_eq_true rfl, Nat.le_of_ble_eq_true rfl⟩) ⟨Gv.blind, va_recv hK hP (ci := 5) (q0 := 0) rfl rfl, Gv.of hE (hP.sub [0, 1] rfl)⟩ rfl rfl hl.1 rfl (lv_room (Nat.le_of_ble_eq_true rfl)) dX5_errorOf_2 ⟨Nat.le_of_ble_eq_true rfl, Nat.le_of_ble_eq_true rfl⟩)) (fun r_1 hr_1 => ?_)
  refine lv_topv (show va_rf r_1 = .ref r0 from by rw [hr_1] <;> rfl) ?_
  refine va_get (D := (dC, dI)) (ci := 2) (v := .int rer) (C := RX2) (T := TX2) (N := 14) hx hb hts hinX2 hown hK hP 2 rfl rfl 11 (by decide) (hts (.fieldLink RX5 189 "GreyReel$Picture" "error" "I") (List.mem_of_getElem? (i := 1) (by decide +kernel))) (fun _ h9 => h9) rfl dX5_errorOf_5 ?_
  exact W.iret (v := rer) hx hb hr (fun t ht hW => ⟨rer, rfl, rfl, ht⟩) (fun _ h => by cases h) dX5_errorOf_8
set_option maxHeartbeats 4000000 in
set_option maxRecDepth 100000 in
theorem C_X5_kindOf (l : Launch) (dC : Nat → ClassId) (dI : Nat → Nat → Nat) (cI cZ cP : ClassId) (N0 tO : Nat) (g0 gC gR c0 w0 v0 gB p0 cd : Nat) (db st bw ki sg ak : Int32) (fr : Nat → Option Nat) (i : Nat) (r0 rK rX rY rC rV rR rU rG rW : Nat) (rnum rq rer rky rsm : Int32) (kd : Nat → Nat) (b : Nat) (hi : i < cd) (hcd : cd ≤ 24) (hfr : fr i = some r0) (h1 : b < 12) : Met l yX5_kindOf wsX5_kindOf ({ frames := 2, cells := 0, slots := 0, locals := 43 } : Room) (Gv (dC, dI) cI cZ cP N0 tO [.ref g0, .int (nI i), .int (nI b)] (fun H => va_P (dC, dI) vwCl [(g0, .inr (5, [.ref gC, .ref gR, .ref c0, .ref w0, .ref v0, .ref gB, .ref p0, .int (nI cd), .int db, .int st, .int bw, .int ki, .int sg, .int ak])), (gR, .inl (cP, 24, .inr (.inr (.inr (.inr fr))))), (r0, .inr (2, [.ref rK, .ref rX, .ref rY, .ref rC, .ref rV, .ref rR, .ref rU, .ref rG, .ref rW, .int rnum, .int rq, .int rer, .int rky, .int rsm])), (rK, .inl (cI, 12, .inl (fun k => nI (kd k))))] H)) (vp_Si (fun r : Int32 => r = nI (kd b))) 0 0 (fun _ => False) := by
  refine Met.ofW (cc := cX5_kindOf) (maxL := 3) (ret := (some .int)) (by decide) rfl ?_
  intro p e s m args below meth c s₁ B hml hv
  obtain ⟨rfl, hE, hP⟩ := hv
  have hx := B.exec
  have hb := B.bytes
  have hr := B.returns
  have hts := atoms_spec (ws := wsX5_kindOf) B.pre
  have hown : s.vm.findClass RX5 = some m.cls := findClass_of_methodNamed B.named
  have hlocks := B.notSynchronized
  have hK := hE.1
  have hNS := hE.2.1
  have hP : va_P (dC, dI) vwCl [(g0, .inr (5, [.ref gC, .ref gR, .ref c0, .ref w0, .ref v0, .ref gB, .ref p0, .int (nI cd), .int db, .int st, .int bw, .int ki, .int sg, .int ak])), (gR, .inl (cP, 24, .inr (.inr (.inr (.inr fr))))), (r0, .inr (2, [.ref rK, .ref rX, .ref rY, .ref rC, .ref rV, .ref rR, .ref rU, .ref rG, .ref rW, .int rnum, .int rq, .int rer, .int rky, .int rsm])), (rK, .inl (cI, 12, .inl (fun k => nI (kd k))))] s.heap := hP
  have hinX2 : ∀ w ∈ wsX20, w ∈ wsX5_kindOf := by decide +kernel
  have hl := lv_entry ([.ref g0, .int (nI i), .int (nI b)]) (n := 3) (Nat.le_of_ble_eq_true rfl)
  rw [lg_entry_eq]
  generalize (lg_sl ([.ref g0, .int (nI i), .int (nI b)]) ++ List.replicate (3 - (lg_sl ([.ref g0, .int (nI i), .int (nI b)])).length) Slot.unset).toArray = ls at hl ⊢
  have hl : lv_has ls 3 [(0, .ref g0), (1, .int (nI i)), (2, .int (nI b))] := hl
  refine lv_aload_n hx hb dX5_kindOf_0 rfl (lv_at hl 0 rfl) ?_
  refine lv_iload_n hx hb dX5_kindOf_1 rfl (lv_at hl 1 rfl) ?_
  refine va_csq (va_Run.run (va_runV (As := [.int (nI i)]) (rest := []) ⟨hx, hb, hml, hown, hts⟩ (C_X5_pictureAt l dC dI cI cZ cP N0 tO g0 gC gR c0 w0 v0 gB p0 cd db st bw ki sg ak fr i r0 hi hcd hfr) (cwV 1 hts gX5_kindOf_X5_pictureAt rfl rfl rfl (by decide +kernel) ⟨Nat.le_of_ble_eq_true rfl, Nat.le_of_ble_eq_true rfl⟩) ⟨Gv.blind, va_recv hK hP (ci := 5) (q0 := 0) rfl rfl, Gv.of hE (hP.sub [0, 1] rfl)⟩ rfl rfl hl.1 rfl (lv_room (Nat.le_of_ble_eq_true rfl)) dX5_kindOf_2 ⟨Nat.le_of_ble_eq_true rfl, Nat.le_of_ble_eq_true rfl⟩)) (fun r_1 hr_1 => ?_)
  refine lv_topv (show va_rf r_1 = .ref r0 from by rw [hr_1] <;> rfl) ?_
  refine va_get (D := (dC, dI)) (ci := 2) (v := .ref rK) (C := RX2) (T := TX2) (N := 14) hx hb hts hinX2 hown hK hP 2 rfl rfl 0 (by decide) (hts (.fieldLink RX5 168 "GreyReel$Picture" "kind" "[I") (List.mem_of_getElem? (i := 1) (by decide +kernel))) (fun _ h9 => h9) rfl dX5_kindOf_5 ?_
  refine lv_iload_n hx hb dX5_kindOf_8 rfl (lv_at hl 2 rfl) ?_
  refine lv_bipush (v := 12) hx hb dX5_kindOf_9 (by decide +kernel) ?_
  refine vp_callSi (va_Run.run (va_runS (As := [.int (nI b), .int 12]) (rest := [.ref rK]) ⟨hx, hb, hml, hown, hts⟩ (C_X5_placeIn l dC dI cI cZ cP N0 tO b 12 h1 (by decide)) (va_cwS 2 hts gX5_kindOf_X5_placeIn rfl rfl rfl (by decide +kernel) ⟨Nat.le_of_ble_eq_true rfl, Nat.le_of_ble_eq_true rfl⟩) ⟨Gv.blind, Gv.of hE trivial⟩ rfl rfl hl.1 rfl (lv_room (Nat.le_of_ble_eq_true rfl)) dX5_kindOf_11 ⟨Nat.le_of_ble_eq_true rfl, Nat.le_of_ble_eq_true rfl⟩)) (fun r_2 hr_2 => ?_)
  have hr_2 : r_2 = nI b := hr_2
  refine lv_topr hr_2 ?_
  refine wa_iald (D := (dC, dI)) (i := b) (f := (fun k => nI (kd k))) hx hb hK hP 3 0 rfl rfl (by omega) (by omega) dX5_kindOf_14 ?_
  exact W.iret (v := nI (kd b)) hx hb hr (fun t ht hW => ⟨nI (kd b), rfl, rfl, ht⟩) (fun _ h => by cases h) dX5_kindOf_15
set_option maxHeartbeats 4000000 in
set_option maxRecDepth 100000 in
theorem C_X5_vectorX (l : Launch) (dC : Nat → ClassId) (dI : Nat → Nat → Nat) (cI cZ cP : ClassId) (N0 tO : Nat) (g0 gC gR c0 w0 v0 gB p0 cd : Nat) (db st bw ki sg ak : Int32) (fr : Nat → Option Nat) (i : Nat) (r0 rK rX rY rC rV rR rU rG rW : Nat) (rnum rq rer rky rsm : Int32) (fx : Nat → Int32) (b : Nat) (hi : i < cd) (hcd : cd ≤ 24) (hfr : fr i = some r0) (h1 : b < 12) : Met l yX5_vectorX wsX5_vectorX ({ frames := 2, cells := 0, slots := 0, locals := 43 } : Room) (Gv (dC, dI) cI cZ cP N0 tO [.ref g0, .int (nI i), .int (nI b)] (fun H => va_P (dC, dI) vwCl [(g0, .inr (5, [.ref gC, .ref gR, .ref c0, .ref w0, .ref v0, .ref gB, .ref p0, .int (nI cd), .int db, .int st, .int bw, .int ki, .int sg, .int ak])), (gR, .inl (cP, 24, .inr (.inr (.inr (.inr fr))))), (r0, .inr (2, [.ref rK, .ref rX, .ref rY, .ref rC, .ref rV, .ref rR, .ref rU, .ref rG, .ref rW, .int rnum, .int rq, .int rer, .int rky, .int rsm])), (rX, .inl (cI, 12, .inl fx))] H)) (vp_Si (fun r : Int32 => r = fx b)) 0 0 (fun _ => False) := by
  refine Met.ofW (cc := cX5_vectorX) (maxL := 3) (ret := (some .int)) (by decide) rfl ?_
  intro p e s m args below meth c s₁ B hml hv
  obtain ⟨rfl, hE, hP⟩ := hv
  have hx := B.exec
  have hb := B.bytes
  have hr := B.returns
  have hts := atoms_spec (ws := wsX5_vectorX) B.pre
  have hown : s.vm.findClass RX5 = some m.cls := findClass_of_methodNamed B.named
  have hlocks := B.notSynchronized
  have hK := hE.1
  have hNS := hE.2.1
  have hP : va_P (dC, dI) vwCl [(g0, .inr (5, [.ref gC, .ref gR, .ref c0, .ref w0, .ref v0, .ref gB, .ref p0, .int (nI cd), .int db, .int st, .int bw, .int ki, .int sg, .int ak])), (gR, .inl (cP, 24, .inr (.inr (.inr (.inr fr))))), (r0, .inr (2, [.ref rK, .ref rX, .ref rY, .ref rC, .ref rV, .ref rR, .ref rU, .ref rG, .ref rW, .int rnum, .int rq, .int rer, .int rky, .int rsm])), (rX, .inl (cI, 12, .inl fx))] s.heap := hP
  have hinX2 : ∀ w ∈ wsX20, w ∈ wsX5_vectorX := by decide +kernel
  have hl := lv_entry ([.ref g0, .int (nI i), .int (nI b)]) (n := 3) (Nat.le_of_ble_eq_true rfl)
  rw [lg_entry_eq]
  generalize (lg_sl ([.ref g0, .int (nI i), .int (nI b)]) ++ List.replicate (3 - (lg_sl ([.ref g0, .int (nI i), .int (nI b)])).length) Slot.unset).toArray = ls at hl ⊢
  have hl : lv_has ls 3 [(0, .ref g0), (1, .int (nI i)), (2, .int (nI b))] := hl
  refine lv_aload_n hx hb dX5_vectorX_0 rfl (lv_at hl 0 rfl) ?_
  refine lv_iload_n hx hb dX5_vectorX_1 rfl (lv_at hl 1 rfl) ?_
  refine va_csq (va_Run.run (va_runV (As := [.int (nI i)]) (rest := []) ⟨hx, hb, hml, hown, hts⟩ (C_X5_pictureAt l dC dI cI cZ cP N0 tO g0 gC gR c0 w0 v0 gB p0 cd db st bw ki sg ak fr i r0 hi hcd hfr) (cwV 1 hts gX5_vectorX_X5_pictureAt rfl rfl rfl (by decide +kernel) ⟨Nat.le_of_ble_eq_true rfl, Nat.le_of_ble_eq_true rfl⟩) ⟨Gv.blind, va_recv hK hP (ci := 5) (q0 := 0) rfl rfl, Gv.of hE (hP.sub [0, 1] rfl)⟩ rfl rfl hl.1 rfl (lv_room (Nat.le_of_ble_eq_true rfl)) dX5_vectorX_2 ⟨Nat.le_of_ble_eq_true rfl, Nat.le_of_ble_eq_true rfl⟩)) (fun r_1 hr_1 => ?_)
  refine lv_topv (show va_rf r_1 = .ref r0 from by rw [hr_1] <;> rfl) ?_
  refine va_get (D := (dC, dI)) (ci := 2) (v := .ref rX) (C := RX2) (T := TX2) (N := 14) hx hb hts hinX2 hown hK hP 2 rfl rfl 1 (by decide) (hts (.fieldLink RX5 174 "GreyReel$Picture" "vx" "[I") (List.mem_of_getElem? (i := 1) (by decide +kernel))) (fun _ h9 => h9) rfl dX5_vectorX_5 ?_
  refine lv_iload_n hx hb dX5_vectorX_8 rfl (lv_at hl 2 rfl) ?_
  refine lv_bipush (v := 12) hx hb dX5_vectorX_9 (by decide +kernel) ?_
  refine vp_callSi (va_Run.run (va_runS (As := [.int (nI b), .int 12]) (rest := [.ref rX]) ⟨hx, hb, hml, hown, hts⟩ (C_X5_placeIn l dC dI cI cZ cP N0 tO b 12 h1 (by decide)) (va_cwS 2 hts gX5_vectorX_X5_placeIn rfl rfl rfl (by decide +kernel) ⟨Nat.le_of_ble_eq_true rfl, Nat.le_of_ble_eq_true rfl⟩) ⟨Gv.blind, Gv.of hE trivial⟩ rfl rfl hl.1 rfl (lv_room (Nat.le_of_ble_eq_true rfl)) dX5_vectorX_11 ⟨Nat.le_of_ble_eq_true rfl, Nat.le_of_ble_eq_true rfl⟩)) (fun r_2 hr_2 => ?_)
  have hr_2 : r_2 = nI b := hr_2
  refine lv_topr hr_2 ?_
  refine wa_iald (D := (dC, dI)) (i := b) (f := fx) hx hb hK hP 3 0 rfl rfl (by omega) (by omega) dX5_vectorX_14 ?_
  exact W.iret (v := fx b) hx hb hr (fun t ht hW => ⟨fx b, rfl, rfl, ht⟩) (fun _ h => by cases h) dX5_vectorX_15
set_option maxHeartbeats 4000000 in
set_option maxRecDepth 100000 in
theorem C_X5_vectorY (l : Launch) (dC : Nat → ClassId) (dI : Nat → Nat → Nat) (cI cZ cP : ClassId) (N0 tO : Nat) (g0 gC gR c0 w0 v0 gB p0 cd : Nat) (db st bw ki sg ak : Int32) (fr : Nat → Option Nat) (i : Nat) (r0 rK rX rY rC rV rR rU rG rW : Nat) (rnum rq rer rky rsm : Int32) (fx : Nat → Int32) (b : Nat) (hi : i < cd) (hcd : cd ≤ 24) (hfr : fr i = some r0) (h1 : b < 12) : Met l yX5_vectorY wsX5_vectorY ({ frames := 2, cells := 0, slots := 0, locals := 43 } : Room) (Gv (dC, dI) cI cZ cP N0 tO [.ref g0, .int (nI i), .int (nI b)] (fun H => va_P (dC, dI) vwCl [(g0, .inr (5, [.ref gC, .ref gR, .ref c0, .ref w0, .ref v0, .ref gB, .ref p0, .int (nI cd), .int db, .int st, .int bw, .int ki, .int sg, .int ak])), (gR, .inl (cP, 24, .inr (.inr (.inr (.inr fr))))), (r0, .inr (2, [.ref rK, .ref rX, .ref rY, .ref rC, .ref rV, .ref rR, .ref rU, .ref rG, .ref rW, .int rnum, .int rq, .int rer, .int rky, .int rsm])), (rY, .inl (cI, 12, .inl fx))] H)) (vp_Si (fun r : Int32 => r = fx b)) 0 0 (fun _ => False) := by
  refine Met.ofW (cc := cX5_vectorY) (maxL := 3) (ret := (some .int)) (by decide) rfl ?_
  intro p e s m args below meth c s₁ B hml hv
  obtain ⟨rfl, hE, hP⟩ := hv
  have hx := B.exec
  have hb := B.bytes
  have hr := B.returns
  have hts := atoms_spec (ws := wsX5_vectorY) B.pre
  have hown : s.vm.findClass RX5 = some m.cls := findClass_of_methodNamed B.named
  have hlocks := B.notSynchronized
  have hK := hE.1
  have hNS := hE.2.1
  have hP : va_P (dC, dI) vwCl [(g0, .inr (5, [.ref gC, .ref gR, .ref c0, .ref w0, .ref v0, .ref gB, .ref p0, .int (nI cd), .int db, .int st, .int bw, .int ki, .int sg, .int ak])), (gR, .inl (cP, 24, .inr (.inr (.inr (.inr fr))))), (r0, .inr (2, [.ref rK, .ref rX, .ref rY, .ref rC, .ref rV, .ref rR, .ref rU, .ref rG, .ref rW, .int rnum, .int rq, .int rer, .int rky, .int rsm])), (rY, .inl (cI, 12, .inl fx))] s.heap := hP
  have hinX2 : ∀ w ∈ wsX20, w ∈ wsX5_vectorY := by decide +kernel
  have hl := lv_entry ([.ref g0, .int (nI i), .int (nI b)]) (n := 3) (Nat.le_of_ble_eq_true rfl)
  rw [lg_entry_eq]
  generalize (lg_sl ([.ref g0, .int (nI i), .int (nI b)]) ++ List.replicate (3 - (lg_sl ([.ref g0, .int (nI i), .int (nI b)])).length) Slot.unset).toArray = ls at hl ⊢
  have hl : lv_has ls 3 [(0, .ref g0), (1, .int (nI i)), (2, .int (nI b))] := hl
  refine lv_aload_n hx hb dX5_vectorY_0 rfl (lv_at hl 0 rfl) ?_
  refine lv_iload_n hx hb dX5_vectorY_1 rfl (lv_at hl 1 rfl) ?_
  refine va_csq (va_Run.run (va_runV (As := [.int (nI i)]) (rest := []) ⟨hx, hb, hml, hown, hts⟩ (C_X5_pictureAt l dC dI cI cZ cP N0 tO g0 gC gR c0 w0 v0 gB p0 cd db st bw ki sg ak fr i r0 hi hcd hfr) (cwV 1 hts gX5_vectorY_X5_pictureAt rfl rfl rfl (by decide +kernel) ⟨Nat.le_of_ble_eq_true rfl, Nat.le_of_ble_eq_true rfl⟩) ⟨Gv.blind, va_recv hK hP (ci := 5) (q0 := 0) rfl rfl, Gv.of hE (hP.sub [0, 1] rfl)⟩ rfl rfl hl.1 rfl (lv_room (Nat.le_of_ble_eq_true rfl)) dX5_vectorY_2 ⟨Nat.le_of_ble_eq_true rfl, Nat.le_of_ble_eq_true rfl⟩)) (fun r_1 hr_1 => ?_)
  refine lv_topv (show va_rf r_1 = .ref r0 from by rw [hr_1] <;> rfl) ?_
  refine va_get (D := (dC, dI)) (ci := 2) (v := .ref rY) (C := RX2) (T := TX2) (N := 14) hx hb hts hinX2 hown hK hP 2 rfl rfl 2 (by decide) (hts (.fieldLink RX5 177 "GreyReel$Picture" "vy" "[I") (List.mem_of_getElem? (i := 1) (by decide +kernel))) (fun _ h9 => h9) rfl dX5_vectorY_5 ?_
  refine lv_iload_n hx hb dX5_vectorY_8 rfl (lv_at hl 2 rfl) ?_
  refine lv_bipush (v := 12) hx hb dX5_vectorY_9 (by decide +kernel) ?_
  refine vp_callSi (va_Run.run (va_runS (As := [.int (nI b), .int 12]) (rest := [.ref rY]) ⟨hx, hb, hml, hown, hts⟩ (C_X5_placeIn l dC dI cI cZ cP N0 tO b 12 h1 (by decide)) (va_cwS 2 hts gX5_vectorY_X5_placeIn rfl rfl rfl (by decide +kernel) ⟨Nat.le_of_ble_eq_true rfl, Nat.le_of_ble_eq_true rfl⟩) ⟨Gv.blind, Gv.of hE trivial⟩ rfl rfl hl.1 rfl (lv_room (Nat.le_of_ble_eq_true rfl)) dX5_vectorY_11 ⟨Nat.le_of_ble_eq_true rfl, Nat.le_of_ble_eq_true rfl⟩)) (fun r_2 hr_2 => ?_)
  have hr_2 : r_2 = nI b := hr_2
  refine lv_topr hr_2 ?_
  refine wa_iald (D := (dC, dI)) (i := b) (f := fx) hx hb hK hP 3 0 rfl rfl (by omega) (by omega) dX5_vectorY_14 ?_
  exact W.iret (v := fx b) hx hb hr (fun t ht hW => ⟨fx b, rfl, rfl, ht⟩) (fun _ h => by cases h) dX5_vectorY_15
set_option maxHeartbeats 4000000 in
set_option maxRecDepth 100000 in
theorem C_X5_levels (l : Launch) (dC : Nat → ClassId) (dI : Nat → Nat → Nat) (cI cZ cP : ClassId) (N0 tO : Nat) (g0 gC gR c0 w0 v0 gB p0 cd : Nat) (db st bw ki sg ak : Int32) (fr : Nat → Option Nat) (i : Nat) (r0 rK rX rY rC rV rR rU rG rW : Nat) (rnum rq rer rky rsm : Int32) (fv : Nat → Int32) (b : Nat) (hi : i < cd) (hcd : cd ≤ 24) (hfr : fr i = some r0) (h1 : b < 12) : Met l yX5_levels wsX5_levels ({ frames := 2, cells := 0, slots := 0, locals := 43 } : Room) (Gv (dC, dI) cI cZ cP N0 tO [.ref g0, .int (nI i), .int (nI b)] (fun H => va_P (dC, dI) vwCl [(g0, .inr (5, [.ref gC, .ref gR, .ref c0, .ref w0, .ref v0, .ref gB, .ref p0, .int (nI cd), .int db, .int st, .int bw, .int ki, .int sg, .int ak])), (gR, .inl (cP, 24, .inr (.inr (.inr (.inr fr))))), (r0, .inr (2, [.ref rK, .ref rX, .ref rY, .ref rC, .ref rV, .ref rR, .ref rU, .ref rG, .ref rW, .int rnum, .int rq, .int rer, .int rky, .int rsm])), (rV, .inl (cI, 768, .inl fv))] H)) (vp_Si (fun r : Int32 => r = nI (lnz fv b 64))) 0 0 (fun _ => False) := by
  refine Met.ofW (cc := cX5_levels) (maxL := 3) (ret := (some .int)) (by decide) rfl ?_
  intro p e s m args below meth c s₁ B hml hv
  obtain ⟨rfl, hE, hP⟩ := hv
  have hx := B.exec
  have hb := B.bytes
  have hr := B.returns
  have hts := atoms_spec (ws := wsX5_levels) B.pre
  have hown : s.vm.findClass RX5 = some m.cls := findClass_of_methodNamed B.named
  have hlocks := B.notSynchronized
  have hK := hE.1
  have hNS := hE.2.1
  have hP : va_P (dC, dI) vwCl [(g0, .inr (5, [.ref gC, .ref gR, .ref c0, .ref w0, .ref v0, .ref gB, .ref p0, .int (nI cd), .int db, .int st, .int bw, .int ki, .int sg, .int ak])), (gR, .inl (cP, 24, .inr (.inr (.inr (.inr fr))))), (r0, .inr (2, [.ref rK, .ref rX, .ref rY, .ref rC, .ref rV, .ref rR, .ref rU, .ref rG, .ref rW, .int rnum, .int rq, .int rer, .int rky, .int rsm])), (rV, .inl (cI, 768, .inl fv))] s.heap := hP
  have hl := lv_entry ([.ref g0, .int (nI i), .int (nI b)]) (n := 3) (Nat.le_of_ble_eq_true rfl)
  rw [lg_entry_eq]
  generalize (lg_sl ([.ref g0, .int (nI i), .int (nI b)]) ++ List.replicate (3 - (lg_sl ([.ref g0, .int (nI i), .int (nI b)])).length) Slot.unset).toArray = ls at hl ⊢
  have hl : lv_has ls 3 [(0, .ref g0), (1, .int (nI i)), (2, .int (nI b))] := hl
  refine lv_aload_n hx hb dX5_levels_0 rfl (lv_at hl 0 rfl) ?_
  refine lv_iload_n hx hb dX5_levels_1 rfl (lv_at hl 1 rfl) ?_
  refine va_csq (va_Run.run (va_runV (As := [.int (nI i)]) (rest := []) ⟨hx, hb, hml, hown, hts⟩ (C_X5_pictureAt l dC dI cI cZ cP N0 tO g0 gC gR c0 w0 v0 gB p0 cd db st bw ki sg ak fr i r0 hi hcd hfr) (cwV 1 hts gX5_levels_X5_pictureAt rfl rfl rfl (by decide +kernel) ⟨Nat.le_of_ble_eq_true rfl, Nat.le_of_ble_eq_true rfl⟩) ⟨Gv.blind, va_recv hK hP (ci := 5) (q0 := 0) rfl rfl, Gv.of hE (hP.sub [0, 1] rfl)⟩ rfl rfl hl.1 rfl (lv_room (Nat.le_of_ble_eq_true rfl)) dX5_levels_2 ⟨Nat.le_of_ble_eq_true rfl, Nat.le_of_ble_eq_true rfl⟩)) (fun r_1 hr_1 => ?_)
  refine lv_topv (show va_rf r_1 = .ref r0 from by rw [hr_1] <;> rfl) ?_
  refine lv_iload_n hx hb dX5_levels_5 rfl (lv_at hl 2 rfl) ?_
  refine lv_bipush (v := 12) hx hb dX5_levels_6 (by decide +kernel) ?_
  refine vp_callSi (va_Run.run (va_runS (As := [.int (nI b), .int 12]) (rest := [.ref r0]) ⟨hx, hb, hml, hown, hts⟩ (C_X5_placeIn l dC dI cI cZ cP N0 tO b 12 h1 (by decide)) (va_cwS 2 hts gX5_levels_X5_placeIn rfl rfl rfl (by decide +kernel) ⟨Nat.le_of_ble_eq_true rfl, Nat.le_of_ble_eq_true rfl⟩) ⟨Gv.blind, Gv.of hE trivial⟩ rfl rfl hl.1 rfl (lv_room (Nat.le_of_ble_eq_true rfl)) dX5_levels_8 ⟨Nat.le_of_ble_eq_true rfl, Nat.le_of_ble_eq_true rfl⟩)) (fun r_2 hr_2 => ?_)
  have hr_2 : r_2 = nI b := hr_2
  refine lv_topr hr_2 ?_
  refine vp_callSi (va_Run.run (va_runV (As := [.int (nI b)]) (rest := []) ⟨hx, hb, hml, hown, hts⟩ (C_X2_levelsNotZero l dC dI cI cZ cP N0 tO r0 rK rX rY rC rV rR rU rG rW rnum rq rer rky rsm fv b h1) (cwV 1 hts gX5_levels_X2_levelsNotZero rfl rfl rfl (by decide +kernel) ⟨Nat.le_of_ble_eq_true rfl, Nat.le_of_ble_eq_true rfl⟩) ⟨Gv.blind, va_recv hK hP (ci := 2) (q0 := 2) rfl rfl, Gv.of hE (hP.sub [2, 3] rfl)⟩ rfl rfl hl.1 rfl (lv_room (Nat.le_of_ble_eq_true rfl)) dX5_levels_11 ⟨Nat.le_of_ble_eq_true rfl, Nat.le_of_ble_eq_true rfl⟩)) (fun r_3 hr_3 => ?_)
  have hr_3 : r_3 = nI (lnz fv b 64) := hr_3
  refine lv_topr hr_3 ?_
  exact W.iret (v := nI (lnz fv b 64)) hx hb hr (fun t ht hW => ⟨nI (lnz fv b 64), rfl, rfl, ht⟩) (fun _ h => by cases h) dX5_levels_14
set_option maxHeartbeats 4000000 in
set_option maxRecDepth 100000 in
theorem C_X5_resultAt (l : Launch) (dC : Nat → ClassId) (dI : Nat → Nat → Nat) (cI cZ cP : ClassId) (N0 tO : Nat) (g0 gC gR c0 w0 v0 gB p0 cd : Nat) (db st bw ki sg ak : Int32) (fr : Nat → Option Nat) (i : Nat) (r0 rK rX rY rC rV rR rU rG rW : Nat) (rnum rq rer rky rsm : Int32) (fl : Nat → Int32) (x y : Nat) (hi : i < cd) (hcd : cd ≤ 24) (hfr : fr i = some r0) (h1 : x < 32) (h2 : y < 24) : Met l yX5_resultAt wsX5_resultAt ({ frames := 3, cells := 0, slots := 0, locals := 63 } : Room) (Gv (dC, dI) cI cZ cP N0 tO [.ref g0, .int (nI i), .int (nI x), .int (nI y)] (fun H => va_P (dC, dI) vwCl [(g0, .inr (5, [.ref gC, .ref gR, .ref c0, .ref w0, .ref v0, .ref gB, .ref p0, .int (nI cd), .int db, .int st, .int bw, .int ki, .int sg, .int ak])), (gR, .inl (cP, 24, .inr (.inr (.inr (.inr fr))))), (r0, .inr (2, [.ref rK, .ref rX, .ref rY, .ref rC, .ref rV, .ref rR, .ref rU, .ref rG, .ref rW, .int rnum, .int rq, .int rer, .int rky, .int rsm])), (rR, .inl (cI, 768, .inl fl))] H)) (vp_Si (fun r : Int32 => r = fl (y * 32 + x))) 0 0 (fun _ => False) := by
  refine Met.ofW (cc := cX5_resultAt) (maxL := 4) (ret := (some .int)) (by decide) rfl ?_
  intro p e s m args below meth c s₁ B hml hv
  obtain ⟨rfl, hE, hP⟩ := hv
  have hx := B.exec
  have hb := B.bytes
  have hr := B.returns
  have hts := atoms_spec (ws := wsX5_resultAt) B.pre
  have hown : s.vm.findClass RX5 = some m.cls := findClass_of_methodNamed B.named
  have hlocks := B.notSynchronized
  have hK := hE.1
  have hNS := hE.2.1
  have hP : va_P (dC, dI) vwCl [(g0, .inr (5, [.ref gC, .ref gR, .ref c0, .ref w0, .ref v0, .ref gB, .ref p0, .int (nI cd), .int db, .int st, .int bw, .int ki, .int sg, .int ak])), (gR, .inl (cP, 24, .inr (.inr (.inr (.inr fr))))), (r0, .inr (2, [.ref rK, .ref rX, .ref rY, .ref rC, .ref rV, .ref rR, .ref rU, .ref rG, .ref rW, .int rnum, .int rq, .int rer, .int rky, .int rsm])), (rR, .inl (cI, 768, .inl fl))] s.heap := hP
  have hinX2 : ∀ w ∈ wsX20, w ∈ wsX5_resultAt := by decide +kernel
  have hl := lv_entry ([.ref g0, .int (nI i), .int (nI x), .int (nI y)]) (n := 4) (Nat.le_of_ble_eq_true rfl)
  rw [lg_entry_eq]
  generalize (lg_sl ([.ref g0, .int (nI i), .int (nI x), .int (nI y)]) ++ List.replicate (4 - (lg_sl ([.ref g0, .int (nI i), .int (nI x), .int (nI y)])).length) Slot.unset).toArray = ls at hl ⊢
  have hl : lv_has ls 4 [(0, .ref g0), (1, .int (nI i)), (2, .int (nI x)), (3, .int (nI y))] := hl
  refine lv_aload_n hx hb dX5_resultAt_0 rfl (lv_at hl 0 rfl) ?_
  refine lv_iload_n hx hb dX5_resultAt_1 rfl (lv_at hl 1 rfl) ?_
  refine va_csq (va_Run.run (va_runV (As := [.int (nI i)]) (rest := []) ⟨hx, hb, hml, hown, hts⟩ (C_X5_pictureAt l dC dI cI cZ cP N0 tO g0 gC gR c0 w0 v0 gB p0 cd db st bw ki sg ak fr i r0 hi hcd hfr) (cwV 1 hts gX5_resultAt_X5_pictureAt rfl rfl rfl (by decide +kernel) ⟨Nat.le_of_ble_eq_true rfl, Nat.le_of_ble_eq_true rfl⟩) ⟨Gv.blind, va_recv hK hP (ci := 5) (q0 := 0) rfl rfl, Gv.of hE (hP.sub [0, 1] rfl)⟩ rfl rfl hl.1 rfl (lv_room (Nat.le_of_ble_eq_true rfl)) dX5_resultAt_2 ⟨Nat.le_of_ble_eq_true rfl, Nat.le_of_ble_eq_true rfl⟩)) (fun r_1 hr_1 => ?_)
  refine lv_topv (show va_rf r_1 = .ref r0 from by rw [hr_1] <;> rfl) ?_
  refine va_get (D := (dC, dI)) (ci := 2) (v := .ref rR) (C := RX2) (T := TX2) (N := 14) hx hb hts hinX2 hown hK hP 2 rfl rfl 5 (by decide) (hts (.fieldLink RX5 186 "GreyReel$Picture" "result" "[I") (List.mem_of_getElem? (i := 1) (by decide +kernel))) (fun _ h9 => h9) rfl dX5_resultAt_5 ?_
  refine lv_iload_n hx hb dX5_resultAt_8 rfl (lv_at hl 2 rfl) ?_
  refine lv_iload_n hx hb dX5_resultAt_9 rfl (lv_at hl 3 rfl) ?_
  refine vp_callSi (va_Run.run (va_runS (As := [.int (nI x), .int (nI y)]) (rest := [.ref rR]) ⟨hx, hb, hml, hown, hts⟩ (C_X5_pointAt l dC dI cI cZ cP N0 tO x y h1 h2) (va_cwS 2 hts gX5_resultAt_X5_pointAt rfl rfl rfl (by decide +kernel) ⟨Nat.le_of_ble_eq_true rfl, Nat.le_of_ble_eq_true rfl⟩) ⟨Gv.blind, Gv.of hE trivial⟩ rfl rfl hl.1 rfl (lv_room (Nat.le_of_ble_eq_true rfl)) dX5_resultAt_10 ⟨Nat.le_of_ble_eq_true rfl, Nat.le_of_ble_eq_true rfl⟩)) (fun r_2 hr_2 => ?_)
  have hr_2 : r_2 = nI (y * 32 + x) := hr_2
  refine lv_topr hr_2 ?_
  refine wa_iald (D := (dC, dI)) (i := (y * 32 + x)) (f := fl) hx hb hK hP 3 0 rfl rfl (by omega) (by omega) dX5_resultAt_13 ?_
  exact W.iret (v := fl (y * 32 + x)) hx hb hr (fun t ht hW => ⟨fl (y * 32 + x), rfl, rfl, ht⟩) (fun _ h => by cases h) dX5_resultAt_14
set_option maxHeartbeats 4000000 in
set_option maxRecDepth 100000 in
theorem C_X5_bytes (l : Launch) (dC : Nat → ClassId) (dI : Nat → Nat → Nat) (cI cZ cP : ClassId) (N0 tO : Nat) (g0 gC gR c0 w0 v0 gB p0 cd : Nat) (db st bw ki sg ak : Int32) (fr : Nat → Option Nat) (i : Nat) (r0 rK rX rY rC rV rR rU rG rW : Nat) (rnum rq rer rky rsm : Int32) (ub : Nat → Nat) (k : Nat) (hi : i < cd) (hcd : cd ≤ 24) (hfr : fr i = some r0) (h1 : k < 3) (hub : ∀ j, j < 3 → ub j < 1048576) : Met l yX5_bytes wsX5_bytes ({ frames := 2, cells := 0, slots := 0, locals := 43 } : Room) (Gv (dC, dI) cI cZ cP N0 tO [.ref g0, .int (nI i), .int (nI k)] (fun H => va_P (dC, dI) vwCl [(g0, .inr (5, [.ref gC, .ref gR, .ref c0, .ref w0, .ref v0, .ref gB, .ref p0, .int (nI cd), .int db, .int st, .int bw, .int ki, .int sg, .int ak])), (gR, .inl (cP, 24, .inr (.inr (.inr (.inr fr))))), (r0, .inr (2, [.ref rK, .ref rX, .ref rY, .ref rC, .ref rV, .ref rR, .ref rU, .ref rG, .ref rW, .int rnum, .int rq, .int rer, .int rky, .int rsm])), (rU, .inl (cI, 3, .inl (fun k => nI (ub k))))] H)) (vp_Si (fun r : Int32 => r = nI ((ub k + 7) / 8))) 0 0 (fun _ => False) := by
  refine Met.ofW (cc := cX5_bytes) (maxL := 3) (ret := (some .int)) (by decide) rfl ?_
  intro p e s m args below meth c s₁ B hml hv
  obtain ⟨rfl, hE, hP⟩ := hv
  have hx := B.exec
  have hb := B.bytes
  have hr := B.returns
  have hts := atoms_spec (ws := wsX5_bytes) B.pre
  have hown : s.vm.findClass RX5 = some m.cls := findClass_of_methodNamed B.named
  have hlocks := B.notSynchronized
  have hK := hE.1
  have hNS := hE.2.1
  have hP : va_P (dC, dI) vwCl [(g0, .inr (5, [.ref gC, .ref gR, .ref c0, .ref w0, .ref v0, .ref gB, .ref p0, .int (nI cd), .int db, .int st, .int bw, .int ki, .int sg, .int ak])), (gR, .inl (cP, 24, .inr (.inr (.inr (.inr fr))))), (r0, .inr (2, [.ref rK, .ref rX, .ref rY, .ref rC, .ref rV, .ref rR, .ref rU, .ref rG, .ref rW, .int rnum, .int rq, .int rer, .int rky, .int rsm])), (rU, .inl (cI, 3, .inl (fun k => nI (ub k))))] s.heap := hP
  have hl := lv_entry ([.ref g0, .int (nI i), .int (nI k)]) (n := 3) (Nat.le_of_ble_eq_true rfl)
  rw [lg_entry_eq]
  generalize (lg_sl ([.ref g0, .int (nI i), .int (nI k)]) ++ List.replicate (3 - (lg_sl ([.ref g0, .int (nI i), .int (nI k)])).length) Slot.unset).toArray = ls at hl ⊢
  have hl : lv_has ls 3 [(0, .ref g0), (1, .int (nI i)), (2, .int (nI k))] := hl
  refine lv_aload_n hx hb dX5_bytes_0 rfl (lv_at hl 0 rfl) ?_
  refine lv_iload_n hx hb dX5_bytes_1 rfl (lv_at hl 1 rfl) ?_
  refine va_csq (va_Run.run (va_runV (As := [.int (nI i)]) (rest := []) ⟨hx, hb, hml, hown, hts⟩ (C_X5_pictureAt l dC dI cI cZ cP N0 tO g0 gC gR c0 w0 v0 gB p0 cd db st bw ki sg ak fr i r0 hi hcd hfr) (cwV 1 hts gX5_bytes_X5_pictureAt rfl rfl rfl (by decide +kernel) ⟨Nat.le_of_ble_eq_true rfl, Nat.le_of_ble_eq_true rfl⟩) ⟨Gv.blind, va_recv hK hP (ci := 5) (q0 := 0) rfl rfl, Gv.of hE (hP.sub [0, 1] rfl)⟩ rfl rfl hl.1 rfl (lv_room (Nat.le_of_ble_eq_true rfl)) dX5_bytes_2 ⟨Nat.le_of_ble_eq_true rfl, Nat.le_of_ble_eq_true rfl⟩)) (fun r_1 hr_1 => ?_)
  refine lv_topv (show va_rf r_1 = .ref r0 from by rw [hr_1] <;> rfl) ?_
  refine lv_iload_n hx hb dX5_bytes_5 rfl (lv_at hl 2 rfl) ?_
  refine lv_iconst (v := 3) hx hb dX5_bytes_6 (by decide) ?_
  refine vp_callSi (va_Run.run (va_runS (As := [.int (nI k), .int 3]) (rest := [.ref r0]) ⟨hx, hb, hml, hown, hts⟩ (C_X5_placeIn l dC dI cI cZ cP N0 tO k 3 h1 (by decide)) (va_cwS 2 hts gX5_bytes_X5_placeIn rfl rfl rfl (by decide +kernel) ⟨Nat.le_of_ble_eq_true rfl, Nat.le_of_ble_eq_true rfl⟩) ⟨Gv.blind, Gv.of hE trivial⟩ rfl rfl hl.1 rfl (lv_room (Nat.le_of_ble_eq_true rfl)) dX5_bytes_7 ⟨Nat.le_of_ble_eq_true rfl, Nat.le_of_ble_eq_true rfl⟩)) (fun r_2 hr_2 => ?_)
  have hr_2 : r_2 = nI k := hr_2
  refine lv_topr hr_2 ?_
  refine vp_callSi (va_Run.run (va_runV (As := [.int (nI k)]) (rest := []) ⟨hx, hb, hml, hown, hts⟩ (C_X2_bytesIn l dC dI cI cZ cP N0 tO r0 rK rX rY rC rV rR rU rG rW rnum rq rer rky rsm ub k h1 (hub k h1)) (cwV 1 hts gX5_bytes_X2_bytesIn rfl rfl rfl (by decide +kernel) ⟨Nat.le_of_ble_eq_true rfl, Nat.le_of_ble_eq_true rfl⟩) ⟨Gv.blind, va_recv hK hP (ci := 2) (q0 := 2) rfl rfl, Gv.of hE (hP.sub [2, 3] rfl)⟩ rfl rfl hl.1 rfl (lv_room (Nat.le_of_ble_eq_true rfl)) dX5_bytes_10 ⟨Nat.le_of_ble_eq_true rfl, Nat.le_of_ble_eq_true rfl⟩)) (fun r_3 hr_3 => ?_)
  have hr_3 : r_3 = nI ((ub k + 7) / 8) := hr_3
  refine lv_topr hr_3 ?_
  exact W.iret (v := nI ((ub k + 7) / 8)) hx hb hr (fun t ht hW => ⟨nI ((ub k + 7) / 8), rfl, rfl, ht⟩) (fun _ h => by cases h) dX5_bytes_13
set_option maxHeartbeats 4000000 in
set_option maxRecDepth 100000 in
theorem C_X5_bits (l : Launch) (dC : Nat → ClassId) (dI : Nat → Nat → Nat) (cI cZ cP : ClassId) (N0 tO : Nat) (g0 gC gR c0 w0 v0 gB p0 cd : Nat) (db st bw ki sg ak : Int32) (fr : Nat → Option Nat) (i : Nat) (r0 rK rX rY rC rV rR rU rG rW : Nat) (rnum rq rer rky rsm : Int32) (ub : Nat → Nat) (k : Nat) (hi : i < cd) (hcd : cd ≤ 24) (hfr : fr i = some r0) (h1 : k < 3) (hub : ∀ j, j < 3 → ub j < 1048576) : Met l yX5_bits wsX5_bits ({ frames := 2, cells := 0, slots := 0, locals := 43 } : Room) (Gv (dC, dI) cI cZ cP N0 tO [.ref g0, .int (nI i), .int (nI k)] (fun H => va_P (dC, dI) vwCl [(g0, .inr (5, [.ref gC, .ref gR, .ref c0, .ref w0, .ref v0, .ref gB, .ref p0, .int (nI cd), .int db, .int st, .int bw, .int ki, .int sg, .int ak])), (gR, .inl (cP, 24, .inr (.inr (.inr (.inr fr))))), (r0, .inr (2, [.ref rK, .ref rX, .ref rY, .ref rC, .ref rV, .ref rR, .ref rU, .ref rG, .ref rW, .int rnum, .int rq, .int rer, .int rky, .int rsm])), (rU, .inl (cI, 3, .inl (fun k => nI (ub k))))] H)) (vp_Si (fun r : Int32 => r = nI (ub k))) 0 0 (fun _ => False) := by
  refine Met.ofW (cc := cX5_bits) (maxL := 3) (ret := (some .int)) (by decide) rfl ?_
  intro p e s m args below meth c s₁ B hml hv
  obtain ⟨rfl, hE, hP⟩ := hv
  have hx := B.exec
  have hb := B.bytes
  have hr := B.returns
  have hts := atoms_spec (ws := wsX5_bits) B.pre
  have hown : s.vm.findClass RX5 = some m.cls := findClass_of_methodNamed B.named
  have hlocks := B.notSynchronized
  have hK := hE.1
  have hNS := hE.2.1
  have hP : va_P (dC, dI) vwCl [(g0, .inr (5, [.ref gC, .ref gR, .ref c0, .ref w0, .ref v0, .ref gB, .ref p0, .int (nI cd), .int db, .int st, .int bw, .int ki, .int sg, .int ak])), (gR, .inl (cP, 24, .inr (.inr (.inr (.inr fr))))), (r0, .inr (2, [.ref rK, .ref rX, .ref rY, .ref rC, .ref rV, .ref rR, .ref rU, .ref rG, .ref rW, .int rnum, .int rq, .int rer, .int rky, .int rsm])), (rU, .inl (cI, 3, .inl (fun k => nI (ub k))))] s.heap := hP
  have hinX2 : ∀ w ∈ wsX20, w ∈ wsX5_bits := by decide +kernel
  have hl := lv_entry ([.ref g0, .int (nI i), .int (nI k)]) (n := 3) (Nat.le_of_ble_eq_true rfl)
  rw [lg_entry_eq]
  generalize (lg_sl ([.ref g0, .int (nI i), .int (nI k)]) ++ List.replicate (3 - (lg_sl ([.ref g0, .int (nI i), .int (nI k)])).length) Slot.unset).toArray = ls at hl ⊢
  have hl : lv_has ls 3 [(0, .ref g0), (1, .int (nI i)), (2, .int (nI k))] := hl
  refine lv_aload_n hx hb dX5_bits_0 rfl (lv_at hl 0 rfl) ?_
  refine lv_iload_n hx hb dX5_bits_1 rfl (lv_at hl 1 rfl) ?_
  refine va_csq (va_Run.run (va_runV (As := [.int (nI i)]) (rest := []) ⟨hx, hb, hml, hown, hts⟩ (C_X5_pictureAt l dC dI cI cZ cP N0 tO g0 gC gR c0 w0 v0 gB p0 cd db st bw ki sg ak fr i r0 hi hcd hfr) (cwV 1 hts gX5_bits_X5_pictureAt rfl rfl rfl (by decide +kernel) ⟨Nat.le_of_ble_eq_true rfl, Nat.le_of_ble_eq_true rfl⟩) ⟨Gv.blind, va_recv hK hP (ci := 5) (q0 := 0) rfl rfl, Gv.of hE (hP.sub [0, 1] rfl)⟩ rfl rfl hl.1 rfl (lv_room (Nat.le_of_ble_eq_true rfl)) dX5_bits_2 ⟨Nat.le_of_ble_eq_true rfl, Nat.le_of_ble_eq_true rfl⟩)) (fun r_1 hr_1 => ?_)
  refine lv_topv (show va_rf r_1 = .ref r0 from by rw [hr_1] <;> rfl) ?_
  refine va_get (D := (dC, dI)) (ci := 2) (v := .ref rU) (C := RX2) (T := TX2) (N := 14) hx hb hts hinX2 hown hK hP 2 rfl rfl 6 (by decide) (hts (.fieldLink RX5 195 "GreyReel$Picture" "usedBits" "[I") (List.mem_of_getElem? (i := 1) (by decide +kernel))) (fun _ h9 => h9) rfl dX5_bits_5 ?_
  refine lv_iload_n hx hb dX5_bits_8 rfl (lv_at hl 2 rfl) ?_
  refine lv_iconst (v := 3) hx hb dX5_bits_9 (by decide) ?_
  refine vp_callSi (va_Run.run (va_runS (As := [.int (nI k), .int 3]) (rest := [.ref rU]) ⟨hx, hb, hml, hown, hts⟩ (C_X5_placeIn l dC dI cI cZ cP N0 tO k 3 (by omega) (by omega)) (va_cwS 2 hts gX5_bits_X5_placeIn rfl rfl rfl (by decide +kernel) ⟨Nat.le_of_ble_eq_true rfl, Nat.le_of_ble_eq_true rfl⟩) ⟨Gv.blind, Gv.of hE trivial⟩ rfl rfl hl.1 rfl (lv_room (Nat.le_of_ble_eq_true rfl)) dX5_bits_10 ⟨Nat.le_of_ble_eq_true rfl, Nat.le_of_ble_eq_true rfl⟩)) (fun r_2 hr_2 => ?_)
  have hr_2 : r_2 = nI k := hr_2
  refine lv_topr hr_2 ?_
  refine wa_iald (D := (dC, dI)) (i := k) (f := (fun k => nI (ub k))) hx hb hK hP 3 0 rfl rfl (by omega) (by omega) dX5_bits_13 ?_
  exact W.iret (v := nI (ub k)) hx hb hr (fun t ht hW => ⟨nI (ub k), rfl, rfl, ht⟩) (fun _ h => by cases h) dX5_bits_14
set_option maxHeartbeats 4000000 in
set_option maxRecDepth 100000 in
theorem C_X5_byteAt (l : Launch) (dC : Nat → ClassId) (dI : Nat → Nat → Nat) (cI cZ cP : ClassId) (N0 tO : Nat) (g0 gC gR c0 w0 v0 gB p0 cd : Nat) (db st bw ki sg ak : Int32) (fr : Nat → Option Nat) (i : Nat) (r0 rK rX rY rC rV rR rU rG rW : Nat) (rnum rq rer rky rsm : Int32) (ub : Nat → Nat) (fw : Nat → Int32) (len k pl : Nat) (hi : i < cd) (hcd : cd ≤ 24) (hfr : fr i = some r0) (h1 : k < 3) (hub : ∀ j, j < 3 → ub j < 1048576) (h3 : pl < (ub k + 7) / 8) (h4 : fbN ub k + pl < len) (h5 : len < 1048576) : Met l yX5_byteAt wsX5_byteAt ({ frames := 2, cells := 0, slots := 0, locals := 44 } : Room) (Gv (dC, dI) cI cZ cP N0 tO [.ref g0, .int (nI i), .int (nI k), .int (nI pl)] (fun H => va_P (dC, dI) vwCl [(g0, .inr (5, [.ref gC, .ref gR, .ref c0, .ref w0, .ref v0, .ref gB, .ref p0, .int (nI cd), .int db, .int st, .int bw, .int ki, .int sg, .int ak])), (gR, .inl (cP, 24, .inr (.inr (.inr (.inr fr))))), (r0, .inr (2, [.ref rK, .ref rX, .ref rY, .ref rC, .ref rV, .ref rR, .ref rU, .ref rG, .ref rW, .int rnum, .int rq, .int rer, .int rky, .int rsm])), (rU, .inl (cI, 3, .inl (fun k => nI (ub k)))), (rW, .inl (cI, len, .inl fw))] H)) (vp_Si (fun r : Int32 => r = fw (fbN ub k + pl))) 0 0 (fun _ => False) := by
  refine Met.ofW (cc := cX5_byteAt) (maxL := 7) (ret := (some .int)) (by decide) rfl ?_
  intro p e s m args below meth c s₁ B hml hv
  obtain ⟨rfl, hE, hP⟩ := hv
  have hx := B.exec
  have hb := B.bytes
  have hr := B.returns
  have hts := atoms_spec (ws := wsX5_byteAt) B.pre
  have hown : s.vm.findClass RX5 = some m.cls := findClass_of_methodNamed B.named
  have hlocks := B.notSynchronized
  have hK := hE.1
  have hNS := hE.2.1
  have hP : va_P (dC, dI) vwCl [(g0, .inr (5, [.ref gC, .ref gR, .ref c0, .ref w0, .ref v0, .ref gB, .ref p0, .int (nI cd), .int db, .int st, .int bw, .int ki, .int sg, .int ak])), (gR, .inl (cP, 24, .inr (.inr (.inr (.inr fr))))), (r0, .inr (2, [.ref rK, .ref rX, .ref rY, .ref rC, .ref rV, .ref rR, .ref rU, .ref rG, .ref rW, .int rnum, .int rq, .int rer, .int rky, .int rsm])), (rU, .inl (cI, 3, .inl (fun k => nI (ub k)))), (rW, .inl (cI, len, .inl fw))] s.heap := hP
  have hinX2 : ∀ w ∈ wsX20, w ∈ wsX5_byteAt := by decide +kernel
  have hl := lv_entry ([.ref g0, .int (nI i), .int (nI k), .int (nI pl)]) (n := 7) (Nat.le_of_ble_eq_true rfl)
  rw [lg_entry_eq]
  generalize (lg_sl ([.ref g0, .int (nI i), .int (nI k), .int (nI pl)]) ++ List.replicate (7 - (lg_sl ([.ref g0, .int (nI i), .int (nI k), .int (nI pl)])).length) Slot.unset).toArray = ls at hl ⊢
  have hl : lv_has ls 7 [(0, .ref g0), (1, .int (nI i)), (2, .int (nI k)), (3, .int (nI pl))] := hl
  have hu2 := hub k h1
  refine lv_aload_n hx hb dX5_byteAt_0 rfl (lv_at hl 0 rfl) ?_
  refine lv_iload_n hx hb dX5_byteAt_1 rfl (lv_at hl 1 rfl) ?_
  refine va_csq (va_Run.run (va_runV (As := [.int (nI i)]) (rest := []) ⟨hx, hb, hml, hown, hts⟩ (C_X5_pictureAt l dC dI cI cZ cP N0 tO g0 gC gR c0 w0 v0 gB p0 cd db st bw ki sg ak fr i r0 hi hcd hfr) (cwV 1 hts gX5_byteAt_X5_pictureAt rfl rfl rfl (by decide +kernel) ⟨Nat.le_of_ble_eq_true rfl, Nat.le_of_ble_eq_true rfl⟩) ⟨Gv.blind, va_recv hK hP (ci := 5) (q0 := 0) rfl rfl, Gv.of hE (hP.sub [0, 1] rfl)⟩ rfl rfl hl.1 rfl (lv_room (Nat.le_of_ble_eq_true rfl)) dX5_byteAt_2 ⟨Nat.le_of_ble_eq_true rfl, Nat.le_of_ble_eq_true rfl⟩)) (fun r_1 hr_1 => ?_)
  refine lv_topv (show va_rf r_1 = .ref r0 from by rw [hr_1] <;> rfl) ?_
  refine lv_astore (lv' := [(4, .ref r0), (0, .ref g0), (1, .int (nI i)), (2, .int (nI k)), (3, .int (nI pl))]) hx hb dX5_byteAt_5 hl (by decide) rfl (fun ls hl => ?_)
  refine lv_iload_n hx hb dX5_byteAt_7 rfl (lv_at hl 3 rfl) ?_
  refine lv_iconst (v := 3) hx hb dX5_byteAt_8 (by decide) ?_
  refine vp_callSi (va_Run.run (va_runS (As := [.int (nI k), .int 3]) (rest := []) ⟨hx, hb, hml, hown, hts⟩ (C_X5_placeIn l dC dI cI cZ cP N0 tO k 3 h1 (by decide)) (va_cwS 2 hts gX5_byteAt_X5_placeIn rfl rfl rfl (by decide +kernel) ⟨Nat.le_of_ble_eq_true rfl, Nat.le_of_ble_eq_true rfl⟩) ⟨Gv.blind, Gv.of hE trivial⟩ rfl rfl hl.1 rfl (lv_room (Nat.le_of_ble_eq_true rfl)) dX5_byteAt_9 ⟨Nat.le_of_ble_eq_true rfl, Nat.le_of_ble_eq_true rfl⟩)) (fun r_2 hr_2 => ?_)
  have hr_2 : r_2 = nI k := hr_2
  refine lv_topr hr_2 ?_
  refine lv_istore (lv' := [(5, .int (nI k)), (4, .ref r0), (0, .ref g0), (1, .int (nI i)), (2, .int (nI k)), (3, .int (nI pl))]) hx hb dX5_byteAt_12 hl (by decide) rfl (fun ls hl => ?_)
  refine lv_aload hx hb dX5_byteAt_14 (lv_at hl 1 rfl) ?_
  refine lv_iload hx hb dX5_byteAt_16 (lv_at hl 0 rfl) ?_
  refine vp_callSi (va_Run.run (va_runV (As := [.int (nI k)]) (rest := []) ⟨hx, hb, hml, hown, hts⟩ (C_X2_firstByteOf l dC dI cI cZ cP N0 tO r0 rK rX rY rC rV rR rU rG rW rnum rq rer rky rsm ub k (by omega) hub) (cwV 1 hts gX5_byteAt_X2_firstByteOf rfl rfl rfl (by decide +kernel) ⟨Nat.le_of_ble_eq_true rfl, Nat.le_of_ble_eq_true rfl⟩) ⟨Gv.blind, va_recv hK hP (ci := 2) (q0 := 2) rfl rfl, Gv.of hE (hP.sub [2, 3] rfl)⟩ rfl rfl hl.1 rfl (lv_room (Nat.le_of_ble_eq_true rfl)) dX5_byteAt_18 ⟨Nat.le_of_ble_eq_true rfl, Nat.le_of_ble_eq_true rfl⟩)) (fun r_3 hr_3 => ?_)
  have hr_3 : r_3 = nI (fbN ub k) := hr_3
  refine lv_topr hr_3 ?_
  refine lv_iload_n hx hb dX5_byteAt_21 rfl (lv_at hl 5 rfl) ?_
  refine lv_aload hx hb dX5_byteAt_22 (lv_at hl 1 rfl) ?_
  refine lv_iload hx hb dX5_byteAt_24 (lv_at hl 0 rfl) ?_
  refine vp_callSi (va_Run.run (va_runV (As := [.int (nI k)]) (rest := [.int (nI pl), .int (nI (fbN ub k))]) ⟨hx, hb, hml, hown, hts⟩ (C_X2_bytesIn l dC dI cI cZ cP N0 tO r0 rK rX rY rC rV rR rU rG rW rnum rq rer rky rsm ub k h1 (hub k h1)) (cwV 1 hts gX5_byteAt_X2_bytesIn rfl rfl rfl (by decide +kernel) ⟨Nat.le_of_ble_eq_true rfl, Nat.le_of_ble_eq_true rfl⟩) ⟨Gv.blind, va_recv hK hP (ci := 2) (q0 := 2) rfl rfl, Gv.of hE (hP.sub [2, 3] rfl)⟩ rfl rfl hl.1 rfl (lv_room (Nat.le_of_ble_eq_true rfl)) dX5_byteAt_26 ⟨Nat.le_of_ble_eq_true rfl, Nat.le_of_ble_eq_true rfl⟩)) (fun r_4 hr_4 => ?_)
  have hr_4 : r_4 = nI ((ub k + 7) / 8) := hr_4
  refine lv_topr hr_4 ?_
  refine vp_callSi (va_Run.run (va_runS (As := [.int (nI pl), .int (nI ((ub k + 7) / 8))]) (rest := [.int (nI (fbN ub k))]) ⟨hx, hb, hml, hown, hts⟩ (C_X5_placeIn l dC dI cI cZ cP N0 tO pl ((ub k + 7) / 8) h3 (by omega)) (va_cwS 2 hts gX5_byteAt_X5_placeIn rfl rfl rfl (by decide +kernel) ⟨Nat.le_of_ble_eq_true rfl, Nat.le_of_ble_eq_true rfl⟩) ⟨Gv.blind, Gv.of hE trivial⟩ rfl rfl hl.1 rfl (lv_room (Nat.le_of_ble_eq_true rfl)) dX5_byteAt_29 ⟨Nat.le_of_ble_eq_true rfl, Nat.le_of_ble_eq_true rfl⟩)) (fun r_5 hr_5 => ?_)
  have hr_5 : r_5 = nI pl := hr_5
  refine lv_topr hr_5 ?_
  refine lv_iadd hx hb dX5_byteAt_32 ?_
  refine lv_topr (show _ = nI ((fbN ub k) + pl) from nI_add (fbN ub k) pl) ?_
  refine lv_istore (lv' := [(6, .int (nI ((fbN ub k) + pl))), (5, .int (nI k)), (4, .ref r0), (0, .ref g0), (1, .int (nI i)), (2, .int (nI k)), (3, .int (nI pl))]) hx hb dX5_byteAt_33 hl (by decide) rfl (fun ls hl => ?_)
  refine lv_aload hx hb dX5_byteAt_35 (lv_at hl 2 rfl) ?_
  refine va_get (D := (dC, dI)) (ci := 2) (v := .ref rW) (C := RX2) (T := TX2) (N := 14) hx hb hts hinX2 hown hK hP 2 rfl rfl 8 (by decide) (hts (.fieldLink RX5 152 "GreyReel$Picture" "row" "[I") (List.mem_of_getElem? (i := 1) (by decide +kernel))) (fun _ h9 => h9) rfl dX5_byteAt_37 ?_
  refine lv_iload hx hb dX5_byteAt_40 (lv_at hl 0 rfl) ?_
  refine lv_aload hx hb dX5_byteAt_42 (lv_at hl 2 rfl) ?_
  refine va_get (D := (dC, dI)) (ci := 2) (v := .ref rW) (C := RX2) (T := TX2) (N := 14) hx hb hts hinX2 hown hK hP 2 rfl rfl 8 (by decide) (hts (.fieldLink RX5 152 "GreyReel$Picture" "row" "[I") (List.mem_of_getElem? (i := 1) (by decide +kernel))) (fun _ h9 => h9) rfl dX5_byteAt_44 ?_
  refine va_alen (D := (dC, dI)) (v := nI len) hx hb hK hP 4 0 rfl rfl rfl dX5_byteAt_47 ?_
  refine vp_callSi (va_Run.run (va_runS (As := [.int (nI ((fbN ub k) + pl)), .int (nI len)]) (rest := [.ref rW]) ⟨hx, hb, hml, hown, hts⟩ (C_X5_placeIn l dC dI cI cZ cP N0 tO ((fbN ub k) + pl) len h4 (by omega)) (va_cwS 2 hts gX5_byteAt_X5_placeIn rfl rfl rfl (by decide +kernel) ⟨Nat.le_of_ble_eq_true rfl, Nat.le_of_ble_eq_true rfl⟩) ⟨Gv.blind, Gv.of hE trivial⟩ rfl rfl hl.1 rfl (lv_room (Nat.le_of_ble_eq_true rfl)) dX5_byteAt_48 ⟨Nat.le_of_ble_eq_true rfl, Nat.le_of_ble_eq_true rfl⟩)) (fun r_6 hr_6 => ?_)
  have hr_6 : r_6 = nI ((fbN ub k) + pl) := hr_6
  refine lv_topr hr_6 ?_
  refine wa_iald (D := (dC, dI)) (i := ((fbN ub k) + pl)) (f := fw) hx hb hK hP 4 0 rfl rfl (by omega) (by omega) dX5_byteAt_51 ?_
  exact W.iret (v := fw ((fbN ub k) + pl)) hx hb hr (fun t ht hW => ⟨fw ((fbN ub k) + pl), rfl, rfl, ht⟩) (fun _ h => by cases h) dX5_byteAt_52
set_option maxHeartbeats 4000000 in
set_option maxRecDepth 100000 in
theorem C_X5_setStep (l : Launch) (dC : Nat → ClassId) (dI : Nat → Nat → Nat) (cI cZ cP : ClassId) (N0 tO : Nat) (g0 gC gR c0 w0 v0 gB p0 cd : Nat) (db st bw ki sg ak : Int32) (x : Int32) (hxq : qOK x) : Met l yX5_setStep wsX5_setStep ({ frames := 1, cells := 0, slots := 0, locals := 22 } : Room) (Gv (dC, dI) cI cZ cP N0 tO [.ref g0, .int x] (fun H => va_P (dC, dI) vwCl [(g0, .inr (5, [.ref gC, .ref gR, .ref c0, .ref w0, .ref v0, .ref gB, .ref p0, .int (nI cd), .int db, .int st, .int bw, .int ki, .int sg, .int ak]))] H ∧ AD N0 [g0])) (va_Qi (fun (r : Int32) (_ : Unit) => True) (fun (_ : Unit) (t : State) => va_P (dC, dI) vwCl [(g0, .inr (5, [.ref gC, .ref gR, .ref c0, .ref w0, .ref v0, .ref gB, .ref p0, .int (nI cd), .int db, .int x, .int bw, .int ki, .int sg, .int ak]))] t.heap) (inL [g0])) 0 0 (inL [g0]) := by
  refine Met.ofW (cc := cX5_setStep) (maxL := 3) (ret := (some .int)) (by decide) rfl ?_
  intro p e s m args below meth c s₁ B hml hv
  obtain ⟨rfl, hE, hP, hN⟩ := hv
  have hx := B.exec
  have hb := B.bytes
  have hr := B.returns
  have hts := atoms_spec (ws := wsX5_setStep) B.pre
  have hown : s.vm.findClass RX5 = some m.cls := findClass_of_methodNamed B.named
  have hlocks := B.notSynchronized
  have hK := hE.1
  have hNS := hE.2.1
  have hS : va_S (inL [g0]) s.heap s.heap [] := va_S.rf
  have hAN : ∀ q : Nat, (inL [g0]) q → N0 ≤ q := fun q h => hN.in [0] rfl q h
  have hP : va_P (dC, dI) vwCl [(g0, .inr (5, [.ref gC, .ref gR, .ref c0, .ref w0, .ref v0, .ref gB, .ref p0, .int (nI cd), .int db, .int st, .int bw, .int ki, .int sg, .int ak]))] s.heap := hP
  have hinX5 : ∀ w ∈ wsX50, w ∈ wsX5_setStep := by decide +kernel
  have hl := lv_entry ([.ref g0, .int x]) (n := 3) (Nat.le_of_ble_eq_true rfl)
  rw [lg_entry_eq]
  generalize (lg_sl ([.ref g0, .int x]) ++ List.replicate (3 - (lg_sl ([.ref g0, .int x])).length) Slot.unset).toArray = ls at hl ⊢
  have hl : lv_has ls 3 [(0, .ref g0), (1, .int x)] := hl
  refine lv_iload_n hx hb dX5_setStep_0 rfl (lv_at hl 1 rfl) ?_
  refine lv_iconst (v := 1) hx hb dX5_setStep_1 (by decide) ?_
  refine lv_bipush (v := 60) hx hb dX5_setStep_2 (by decide +kernel) ?_
  refine vp_callSi (va_Run.run (va_runS (As := [.int x, .int 1, .int 60]) (rest := []) ⟨hx, hb, hml, hown, hts⟩ (C_X5_isWithin l dC dI cI cZ cP N0 tO x 1 60 ) (va_cwS 3 hts gX5_setStep_X5_isWithin rfl rfl rfl (by decide +kernel) ⟨Nat.le_of_ble_eq_true rfl, Nat.le_of_ble_eq_true rfl⟩) ⟨Gv.blind, Gv.of (hE.S hS hAN) trivial⟩ rfl rfl hl.1 rfl (lv_room (Nat.le_of_ble_eq_true rfl)) dX5_setStep_4 ⟨Nat.le_of_ble_eq_true rfl, Nat.le_of_ble_eq_true rfl⟩)) (fun r_1 hr_1 => ?_)
  have hr_1 : r_1 = isWithinI x 1 60 := hr_1
  refine lv_if_ne (tgt := 20) hx hb dX5_setStep_7 (by decide) (fun c7 => ?_) (fun c7 => ?_)
  · skip
    refine lv_aload_n hx hb dX5_setStep_20 rfl (lv_at hl 0 rfl) ?_
    refine va_get (D := (dC, dI)) (ci := 5) (v := .int st) (C := RX5) (T := TX5) (N := 14) hx hb hts hinX5 hown hK hP 0 rfl rfl 9 (by decide) (hts (.fieldLink RX5 55 "GreyReel" "nextStep" "I") (List.mem_of_getElem? (i := 3) (by decide +kernel))) (fun _ h9 => h9) rfl dX5_setStep_21 ?_
    refine lv_istore_n (lv' := [(2, .int st), (0, .ref g0), (1, .int x)]) hx hb dX5_setStep_24 rfl hl (by decide) rfl (fun ls hl => ?_)
    refine lv_aload_n hx hb dX5_setStep_25 rfl (lv_at hl 1 rfl) ?_
    refine lv_iload_n hx hb dX5_setStep_26 rfl (lv_at hl 2 rfl) ?_
    refine wa_put (D := (dC, dI)) (ci := 5) (v := .int x) (ty := .int) (C := RX5) (T := TX5) (N := 14) hx hb hts hinX5 tyX5 tyX5_ok nmX5 hown hK hP (hN.D rfl) hS (List.mem_of_getElem? (i := 0) rfl) 0 rfl rfl 9 (by decide) (hts (.fieldLink RX5 55 "GreyReel" "nextStep" "I") (List.mem_of_getElem? (i := 3) (by decide +kernel))) (fun _ h9 => h9) rfl (by decide +kernel) rfl rfl (Nat.le_of_ble_eq_true rfl) dX5_setStep_27 (fun H locs hP hS => ?_)
    have hP : va_P (dC, dI) vwCl [(g0, .inr (5, [.ref gC, .ref gR, .ref c0, .ref w0, .ref v0, .ref gB, .ref p0, .int (nI cd), .int db, .int x, .int bw, .int ki, .int sg, .int ak]))] H := hP
    refine lv_iload_n hx hb dX5_setStep_30 rfl (lv_at hl 0 rfl) ?_
    exact W.iret (v := st) hx hb hr (fun t ht hW => ⟨⟨st, (), rfl, trivial, by show va_P _ _ _ t.heap; rw [ht]; exact hP.sub [0] rfl⟩, hS.F ht⟩) hS.2.2 dX5_setStep_31
  · skip
    exact False.elim (isW_no hr_1 (show (1 : Int32).toInt ≤ x.toInt ∧ x.toInt ≤ (60 : Int32).toInt from hxq) c7)
set_option maxHeartbeats 4000000 in
set_option maxRecDepth 100000 in
theorem C_X5_setTarget (l : Launch) (dC : Nat → ClassId) (dI : Nat → Nat → Nat) (cI cZ cP : ClassId) (N0 tO : Nat) (g0 gC gR c0 w0 v0 gB p0 cd : Nat) (db st bw ki sg ak : Int32) (x : Int32) (hx4 : 0 ≤ x.toInt ∧ x.toInt ≤ 400) : Met l yX5_setTarget wsX5_setTarget ({ frames := 1, cells := 0, slots := 0, locals := 22 } : Room) (Gv (dC, dI) cI cZ cP N0 tO [.ref g0, .int x] (fun H => va_P (dC, dI) vwCl [(g0, .inr (5, [.ref gC, .ref gR, .ref c0, .ref w0, .ref v0, .ref gB, .ref p0, .int (nI cd), .int db, .int st, .int bw, .int ki, .int sg, .int ak]))] H ∧ AD N0 [g0])) (va_Qi (fun (r : Int32) (_ : Unit) => True) (fun (_ : Unit) (t : State) => va_P (dC, dI) vwCl [(g0, .inr (5, [.ref gC, .ref gR, .ref c0, .ref w0, .ref v0, .ref gB, .ref p0, .int (nI cd), .int db, .int st, .int x, .int ki, .int sg, .int ak]))] t.heap) (inL [g0])) 0 0 (inL [g0]) := by
  refine Met.ofW (cc := cX5_setTarget) (maxL := 3) (ret := (some .int)) (by decide) rfl ?_
  intro p e s m args below meth c s₁ B hml hv
  obtain ⟨rfl, hE, hP, hN⟩ := hv
  have hx := B.exec
  have hb := B.bytes
  have hr := B.returns
  have hts := atoms_spec (ws := wsX5_setTarget) B.pre
  have hown : s.vm.findClass RX5 = some m.cls := findClass_of_methodNamed B.named
  have hlocks := B.notSynchronized
  have hK := hE.1
  have hNS := hE.2.1
  have hS : va_S (inL [g0]) s.heap s.heap [] := va_S.rf
  have hAN : ∀ q : Nat, (inL [g0]) q → N0 ≤ q := fun q h => hN.in [0] rfl q h
  have hP : va_P (dC, dI) vwCl [(g0, .inr (5, [.ref gC, .ref gR, .ref c0, .ref w0, .ref v0, .ref gB, .ref p0, .int (nI cd), .int db, .int st, .int bw, .int ki, .int sg, .int ak]))] s.heap := hP
  have hinX5 : ∀ w ∈ wsX50, w ∈ wsX5_setTarget := by decide +kernel
  have hl := lv_entry ([.ref g0, .int x]) (n := 3) (Nat.le_of_ble_eq_true rfl)
  rw [lg_entry_eq]
  generalize (lg_sl ([.ref g0, .int x]) ++ List.replicate (3 - (lg_sl ([.ref g0, .int x])).length) Slot.unset).toArray = ls at hl ⊢
  have hl : lv_has ls 3 [(0, .ref g0), (1, .int x)] := hl
  refine lv_iload_n hx hb dX5_setTarget_0 rfl (lv_at hl 1 rfl) ?_
  refine lv_iconst (v := 0) hx hb dX5_setTarget_1 (by decide) ?_
  refine lv_sipush (v := 400) hx hb dX5_setTarget_2 (by decide +kernel) ?_
  refine vp_callSi (va_Run.run (va_runS (As := [.int x, .int 0, .int 400]) (rest := []) ⟨hx, hb, hml, hown, hts⟩ (C_X5_isWithin l dC dI cI cZ cP N0 tO x 0 400 ) (va_cwS 3 hts gX5_setTarget_X5_isWithin rfl rfl rfl (by decide +kernel) ⟨Nat.le_of_ble_eq_true rfl, Nat.le_of_ble_eq_true rfl⟩) ⟨Gv.blind, Gv.of (hE.S hS hAN) trivial⟩ rfl rfl hl.1 rfl (lv_room (Nat.le_of_ble_eq_true rfl)) dX5_setTarget_5 ⟨Nat.le_of_ble_eq_true rfl, Nat.le_of_ble_eq_true rfl⟩)) (fun r_1 hr_1 => ?_)
  have hr_1 : r_1 = isWithinI x 0 400 := hr_1
  refine lv_if_ne (tgt := 21) hx hb dX5_setTarget_8 (by decide) (fun c8 => ?_) (fun c8 => ?_)
  · skip
    refine lv_aload_n hx hb dX5_setTarget_21 rfl (lv_at hl 0 rfl) ?_
    refine va_get (D := (dC, dI)) (ci := 5) (v := .int bw) (C := RX5) (T := TX5) (N := 14) hx hb hts hinX5 hown hK hP 0 rfl rfl 10 (by decide) (hts (.fieldLink RX5 58 "GreyReel" "bytesWanted" "I") (List.mem_of_getElem? (i := 3) (by decide +kernel))) (fun _ h9 => h9) rfl dX5_setTarget_22 ?_
    refine lv_istore_n (lv' := [(2, .int bw), (0, .ref g0), (1, .int x)]) hx hb dX5_setTarget_25 rfl hl (by decide) rfl (fun ls hl => ?_)
    refine lv_aload_n hx hb dX5_setTarget_26 rfl (lv_at hl 1 rfl) ?_
    refine lv_iload_n hx hb dX5_setTarget_27 rfl (lv_at hl 2 rfl) ?_
    refine wa_put (D := (dC, dI)) (ci := 5) (v := .int x) (ty := .int) (C := RX5) (T := TX5) (N := 14) hx hb hts hinX5 tyX5 tyX5_ok nmX5 hown hK hP (hN.D rfl) hS (List.mem_of_getElem? (i := 0) rfl) 0 rfl rfl 10 (by decide) (hts (.fieldLink RX5 58 "GreyReel" "bytesWanted" "I") (List.mem_of_getElem? (i := 3) (by decide +kernel))) (fun _ h9 => h9) rfl (by decide +kernel) rfl rfl (Nat.le_of_ble_eq_true rfl) dX5_setTarget_28 (fun H locs hP hS => ?_)
    have hP : va_P (dC, dI) vwCl [(g0, .inr (5, [.ref gC, .ref gR, .ref c0, .ref w0, .ref v0, .ref gB, .ref p0, .int (nI cd), .int db, .int st, .int x, .int ki, .int sg, .int ak]))] H := hP
    refine lv_iload_n hx hb dX5_setTarget_31 rfl (lv_at hl 0 rfl) ?_
    exact W.iret (v := bw) hx hb hr (fun t ht hW => ⟨⟨bw, (), rfl, trivial, by show va_P _ _ _ t.heap; rw [ht]; exact hP.sub [0] rfl⟩, hS.F ht⟩) hS.2.2 dX5_setTarget_32
  · skip
    exact False.elim (isW_no hr_1 (show (0 : Int32).toInt ≤ x.toInt ∧ x.toInt ≤ (400 : Int32).toInt from hx4) c8)
set_option maxHeartbeats 4000000 in
set_option maxRecDepth 100000 in
theorem C_X5_setSmoothing (l : Launch) (dC : Nat → ClassId) (dI : Nat → Nat → Nat) (cI cZ cP : ClassId) (N0 tO : Nat) (g0 gC gR c0 w0 v0 gB p0 cd : Nat) (db st bw ki sg ak : Int32) (x : Int32) (hx1 : x = 0 ∨ x = 1) (hsg : sg = 0 ∨ sg = 1) : Met l yX5_setSmoothing wsX5_setSmoothing ({ frames := 0, cells := 0, slots := 0, locals := 0 } : Room) (Gv (dC, dI) cI cZ cP N0 tO [.ref g0, .int x] (fun H => va_P (dC, dI) vwCl [(g0, .inr (5, [.ref gC, .ref gR, .ref c0, .ref w0, .ref v0, .ref gB, .ref p0, .int (nI cd), .int db, .int st, .int bw, .int ki, .int sg, .int ak]))] H ∧ AD N0 [g0])) (va_Qi (fun (r : Int32) (_ : Unit) => True) (fun (_ : Unit) (t : State) => va_P (dC, dI) vwCl [(g0, .inr (5, [.ref gC, .ref gR, .ref c0, .ref w0, .ref v0, .ref gB, .ref p0, .int (nI cd), .int db, .int st, .int bw, .int ki, .int x, .int ak]))] t.heap) (inL [g0])) 0 0 (inL [g0]) := by
  refine Met.ofW (cc := cX5_setSmoothing) (maxL := 3) (ret := (some .boolean)) (by decide) rfl ?_
  intro p e s m args below meth c s₁ B hml hv
  obtain ⟨rfl, hE, hP, hN⟩ := hv
  have hx := B.exec
  have hb := B.bytes
  have hr := B.returns
  have hts := atoms_spec (ws := wsX5_setSmoothing) B.pre
  have hown : s.vm.findClass RX5 = some m.cls := findClass_of_methodNamed B.named
  have hlocks := B.notSynchronized
  have hK := hE.1
  have hNS := hE.2.1
  have hS : va_S (inL [g0]) s.heap s.heap [] := va_S.rf
  have hAN : ∀ q : Nat, (inL [g0]) q → N0 ≤ q := fun q h => hN.in [0] rfl q h
  have hP : va_P (dC, dI) vwCl [(g0, .inr (5, [.ref gC, .ref gR, .ref c0, .ref w0, .ref v0, .ref gB, .ref p0, .int (nI cd), .int db, .int st, .int bw, .int ki, .int sg, .int ak]))] s.heap := hP
  have hinX5 : ∀ w ∈ wsX50, w ∈ wsX5_setSmoothing := by decide +kernel
  have hl := lv_entry ([.ref g0, .int x]) (n := 3) (Nat.le_of_ble_eq_true rfl)
  rw [lg_entry_eq]
  generalize (lg_sl ([.ref g0, .int x]) ++ List.replicate (3 - (lg_sl ([.ref g0, .int x])).length) Slot.unset).toArray = ls at hl ⊢
  have hl : lv_has ls 3 [(0, .ref g0), (1, .int x)] := hl
  refine lv_aload_n hx hb dX5_setSmoothing_0 rfl (lv_at hl 0 rfl) ?_
  refine va_get (D := (dC, dI)) (ci := 5) (v := .int sg) (C := RX5) (T := TX5) (N := 14) hx hb hts hinX5 hown hK hP 0 rfl rfl 12 (by decide) (hts (.fieldLink RX5 64 "GreyReel" "isSmoothing" "Z") (List.mem_of_getElem? (i := 1) (by decide +kernel))) (fun _ h9 => h9) rfl dX5_setSmoothing_1 ?_
  refine lv_istore_n (lv' := [(2, .int sg), (0, .ref g0), (1, .int x)]) hx hb dX5_setSmoothing_4 rfl hl (by decide) rfl (fun ls hl => ?_)
  refine lv_aload_n hx hb dX5_setSmoothing_5 rfl (lv_at hl 1 rfl) ?_
  refine lv_iload_n hx hb dX5_setSmoothing_6 rfl (lv_at hl 2 rfl) ?_
  refine wa_put (D := (dC, dI)) (ci := 5) (v := .int x) (ty := .boolean) (C := RX5) (T := TX5) (N := 14) hx hb hts hinX5 tyX5 tyX5_ok nmX5 hown hK hP (hN.D rfl) hS (List.mem_of_getElem? (i := 0) rfl) 0 rfl rfl 12 (by decide) (hts (.fieldLink RX5 64 "GreyReel" "isSmoothing" "Z") (List.mem_of_getElem? (i := 1) (by decide +kernel))) (fun _ h9 => h9) rfl (by decide +kernel) (nar01 hx1) (fit01 hx1) (Nat.le_of_ble_eq_true rfl) dX5_setSmoothing_7 (fun H locs hP hS => ?_)
  have hP : va_P (dC, dI) vwCl [(g0, .inr (5, [.ref gC, .ref gR, .ref c0, .ref w0, .ref v0, .ref gB, .ref p0, .int (nI cd), .int db, .int st, .int bw, .int ki, .int x, .int ak]))] H := hP
  refine lv_iload_n hx hb dX5_setSmoothing_10 rfl (lv_at hl 0 rfl) ?_
  exact W.zret (v := sg) hx hb hr (nar01 hsg) (fun t ht hW => ⟨⟨sg, (), rfl, trivial, by show va_P _ _ _ t.heap; rw [ht]; exact hP.sub [0] rfl⟩, hS.F ht⟩) hS.2.2 dX5_setSmoothing_11
set_option maxHeartbeats 4000000 in
set_option maxRecDepth 100000 in
theorem C_X5_isKeyDue (l : Launch) (dC : Nat → ClassId) (dI : Nat → Nat → Nat) (cI cZ cP : ClassId) (N0 tO : Nat) (g0 gC gR c0 w0 v0 gB p0 cd : Nat) (db st bw ki sg ak : Int32) (hcd : cd ≤ 24) : Met l yX5_isKeyDue wsX5_isKeyDue ({ frames := 0, cells := 0, slots := 0, locals := 0 } : Room) (Gv (dC, dI) cI cZ cP N0 tO [.ref g0] (fun H => va_P (dC, dI) vwCl [(g0, .inr (5, [.ref gC, .ref gR, .ref c0, .ref w0, .ref v0, .ref gB, .ref p0, .int (nI cd), .int db, .int st, .int bw, .int ki, .int sg, .int ak]))] H)) (vp_Si (fun r : Int32 => r = kdI cd ak db ki)) 0 0 (fun _ => False) := by
  refine Met.ofW (cc := cX5_isKeyDue) (maxL := 1) (ret := (some .boolean)) (by decide) rfl ?_
  intro p e s m args below meth c s₁ B hml hv
  obtain ⟨rfl, hE, hP⟩ := hv
  have hx := B.exec
  have hb := B.bytes
  have hr := B.returns
  have hts := atoms_spec (ws := wsX5_isKeyDue) B.pre
  have hown : s.vm.findClass RX5 = some m.cls := findClass_of_methodNamed B.named
  have hlocks := B.notSynchronized
  have hK := hE.1
  have hNS := hE.2.1
  have hP : va_P (dC, dI) vwCl [(g0, .inr (5, [.ref gC, .ref gR, .ref c0, .ref w0, .ref v0, .ref gB, .ref p0, .int (nI cd), .int db, .int st, .int bw, .int ki, .int sg, .int ak]))] s.heap := hP
  have hinX5 : ∀ w ∈ wsX50, w ∈ wsX5_isKeyDue := by decide +kernel
  have hl := lv_entry ([.ref g0]) (n := 1) (Nat.le_of_ble_eq_true rfl)
  rw [lg_entry_eq]
  generalize (lg_sl ([.ref g0]) ++ List.replicate (1 - (lg_sl ([.ref g0])).length) Slot.unset).toArray = ls at hl ⊢
  have hl : lv_has ls 1 [(0, .ref g0)] := hl
  refine lv_aload_n hx hb dX5_isKeyDue_0 rfl (lv_at hl 0 rfl) ?_
  refine va_get (D := (dC, dI)) (ci := 5) (v := .int (nI cd)) (C := RX5) (T := TX5) (N := 14) hx hb hts hinX5 hown hK hP 0 rfl rfl 7 (by decide) (hts (.fieldLink RX5 48 "GreyReel" "coded" "I") (List.mem_of_getElem? (i := 1) (by decide +kernel))) (fun _ h9 => h9) rfl dX5_isKeyDue_1 ?_
  refine lv_if_eq (tgt := 27) hx hb dX5_isKeyDue_4 (by decide) (fun c4 => ?_) (fun c4 => ?_)
  · skip
    have c4 : cd = 0 := (nI_eq (a := cd) (b := 0) (by omega) (by omega)).mp c4
    refine lv_iconst (v := 1) hx hb dX5_isKeyDue_27 (by decide) ?_
    refine lv_goto (tgt := 32) hx hb dX5_isKeyDue_28 (by decide) ?_
    exact W.zret (v := 1) hx hb hr rfl (fun t ht hW => ⟨1, rfl, (by rw [kdI, if_pos c4] <;> rfl), ht⟩) (fun _ h => by cases h) dX5_isKeyDue_32
  · skip
    have c4 : ¬ cd = 0 := fun z => c4 ((nI_eq (a := cd) (b := 0) (by omega) (by omega)).mpr z)
    refine lv_aload_n hx hb dX5_isKeyDue_7 rfl (lv_at hl 0 rfl) ?_
    refine va_get (D := (dC, dI)) (ci := 5) (v := .int ak) (C := RX5) (T := TX5) (N := 14) hx hb hts hinX5 hown hK hP 0 rfl rfl 13 (by decide) (hts (.fieldLink RX5 68 "GreyReel" "isKeyAsked" "Z") (List.mem_of_getElem? (i := 2) (by decide +kernel))) (fun _ h9 => h9) rfl dX5_isKeyDue_8 ?_
    refine lv_if_ne (tgt := 27) hx hb dX5_isKeyDue_11 (by decide) (fun c11 => ?_) (fun c11 => ?_)
    · skip
      refine lv_iconst (v := 1) hx hb dX5_isKeyDue_27 (by decide) ?_
      refine lv_goto (tgt := 32) hx hb dX5_isKeyDue_28 (by decide) ?_
      exact W.zret (v := 1) hx hb hr rfl (fun t ht hW => ⟨1, rfl, (by rw [kdI, if_neg c4, if_neg c11] <;> rfl), ht⟩) (fun _ h => by cases h) dX5_isKeyDue_32
    · skip
      refine lv_aload_n hx hb dX5_isKeyDue_14 rfl (lv_at hl 0 rfl) ?_
      refine va_get (D := (dC, dI)) (ci := 5) (v := .int db) (C := RX5) (T := TX5) (N := 14) hx hb hts hinX5 hown hK hP 0 rfl rfl 8 (by decide) (hts (.fieldLink RX5 52 "GreyReel" "deltasBehindKey" "I") (List.mem_of_getElem? (i := 3) (by decide +kernel))) (fun _ h9 => h9) rfl dX5_isKeyDue_15 ?_
      refine lv_aload_n hx hb dX5_isKeyDue_18 rfl (lv_at hl 0 rfl) ?_
      refine va_get (D := (dC, dI)) (ci := 5) (v := .int ki) (C := RX5) (T := TX5) (N := 14) hx hb hts hinX5 hown hK hP 0 rfl rfl 11 (by decide) (hts (.fieldLink RX5 61 "GreyReel" "keyInterval" "I") (List.mem_of_getElem? (i := 4) (by decide +kernel))) (fun _ h9 => h9) rfl dX5_isKeyDue_19 ?_
      refine lv_iconst (v := 1) hx hb dX5_isKeyDue_22 (by decide) ?_
      refine lv_isub hx hb dX5_isKeyDue_23 ?_
      refine lv_icmp_lt (tgt := 31) hx hb dX5_isKeyDue_24 (by decide) (fun c24 => ?_) (fun c24 => ?_)
      · skip
        refine lv_iconst (v := 0) hx hb dX5_isKeyDue_31 (by decide) ?_
        exact W.zret (v := 0) hx hb hr rfl (fun t ht hW => ⟨0, rfl, (by rw [kdI, if_neg c4, if_pos c11, if_pos c24] <;> rfl), ht⟩) (fun _ h => by cases h) dX5_isKeyDue_32
      · skip
        refine lv_iconst (v := 1) hx hb dX5_isKeyDue_27 (by decide) ?_
        refine lv_goto (tgt := 32) hx hb dX5_isKeyDue_28 (by decide) ?_
        exact W.zret (v := 1) hx hb hr rfl (fun t ht hW => ⟨1, rfl, (by rw [kdI, if_neg c4, if_pos c11, if_neg c24] <;> rfl), ht⟩) (fun _ h => by cases h) dX5_isKeyDue_32
set_option maxHeartbeats 4000000 in
set_option maxRecDepth 100000 in
theorem C_X5_askKey (l : Launch) (dC : Nat → ClassId) (dI : Nat → Nat → Nat) (cI cZ cP : ClassId) (N0 tO : Nat) (g0 gC gR c0 w0 v0 gB p0 cd : Nat) (db st bw ki sg ak : Int32) (hcd : cd ≤ 24) : Met l yX5_askKey wsX5_askKey ({ frames := 1, cells := 0, slots := 0, locals := 20 } : Room) (Gv (dC, dI) cI cZ cP N0 tO [.ref g0] (fun H => va_P (dC, dI) vwCl [(g0, .inr (5, [.ref gC, .ref gR, .ref c0, .ref w0, .ref v0, .ref gB, .ref p0, .int (nI cd), .int db, .int st, .int bw, .int ki, .int sg, .int ak]))] H ∧ AD N0 [g0])) (va_Qi (fun (r : Int32) (_ : Unit) => True) (fun (_ : Unit) (t : State) => va_P (dC, dI) vwCl [(g0, .inr (5, [.ref gC, .ref gR, .ref c0, .ref w0, .ref v0, .ref gB, .ref p0, .int (nI cd), .int db, .int st, .int bw, .int ki, .int sg, .int 1]))] t.heap) (inL [g0])) 0 0 (inL [g0]) := by
  refine Met.ofW (cc := cX5_askKey) (maxL := 2) (ret := (some .boolean)) (by decide) rfl ?_
  intro p e s m args below meth c s₁ B hml hv
  obtain ⟨rfl, hE, hP, hN⟩ := hv
  have hx := B.exec
  have hb := B.bytes
  have hr := B.returns
  have hts := atoms_spec (ws := wsX5_askKey) B.pre
  have hown : s.vm.findClass RX5 = some m.cls := findClass_of_methodNamed B.named
  have hlocks := B.notSynchronized
  have hK := hE.1
  have hNS := hE.2.1
  have hS : va_S (inL [g0]) s.heap s.heap [] := va_S.rf
  have hAN : ∀ q : Nat, (inL [g0]) q → N0 ≤ q := fun q h => hN.in [0] rfl q h
  have hP : va_P (dC, dI) vwCl [(g0, .inr (5, [.ref gC, .ref gR, .ref c0, .ref w0, .ref v0, .ref gB, .ref p0, .int (nI cd), .int db, .int st, .int bw, .int ki, .int sg, .int ak]))] s.heap := hP
  have hinX5 : ∀ w ∈ wsX50, w ∈ wsX5_askKey := by decide +kernel
  have hl := lv_entry ([.ref g0]) (n := 2) (Nat.le_of_ble_eq_true rfl)
  rw [lg_entry_eq]
  generalize (lg_sl ([.ref g0]) ++ List.replicate (2 - (lg_sl ([.ref g0])).length) Slot.unset).toArray = ls at hl ⊢
  have hl : lv_has ls 2 [(0, .ref g0)] := hl
  refine lv_aload_n hx hb dX5_askKey_0 rfl (lv_at hl 0 rfl) ?_
  refine vp_callSi (va_Run.run (va_runV (As := []) (rest := []) ⟨hx, hb, hml, hown, hts⟩ (C_X5_isKeyDue l dC dI cI cZ cP N0 tO g0 gC gR c0 w0 v0 gB p0 cd db st bw ki sg ak hcd) (cwV 0 hts gX5_askKey_X5_isKeyDue rfl rfl rfl (by decide +kernel) ⟨Nat.le_of_ble_eq_true rfl, Nat.le_of_ble_eq_true rfl⟩) ⟨Gv.blind, va_recv hK hP (ci := 5) (q0 := 0) rfl rfl, Gv.of (hE.S hS hAN) (hP.sub [0] rfl)⟩ rfl rfl hl.1 rfl (lv_room (Nat.le_of_ble_eq_true rfl)) dX5_askKey_1 ⟨Nat.le_of_ble_eq_true rfl, Nat.le_of_ble_eq_true rfl⟩)) (fun r_1 hr_1 => ?_)
  have hr_1 : r_1 = kdI cd ak db ki := hr_1
  refine lv_istore_n (lv' := [(1, .int r_1), (0, .ref g0)]) hx hb dX5_askKey_4 rfl hl (by decide) rfl (fun ls hl => ?_)
  refine lv_aload_n hx hb dX5_askKey_5 rfl (lv_at hl 1 rfl) ?_
  refine lv_iconst (v := 1) hx hb dX5_askKey_6 (by decide) ?_
  refine wa_put (D := (dC, dI)) (ci := 5) (v := .int 1) (ty := .boolean) (C := RX5) (T := TX5) (N := 14) hx hb hts hinX5 tyX5 tyX5_ok nmX5 hown hK hP (hN.D rfl) hS (List.mem_of_getElem? (i := 0) rfl) 0 rfl rfl 13 (by decide) (hts (.fieldLink RX5 68 "GreyReel" "isKeyAsked" "Z") (List.mem_of_getElem? (i := 1) (by decide +kernel))) (fun _ h9 => h9) rfl (by decide +kernel) (by decide +kernel) rfl (Nat.le_of_ble_eq_true rfl) dX5_askKey_7 (fun H locs hP hS => ?_)
  have hP : va_P (dC, dI) vwCl [(g0, .inr (5, [.ref gC, .ref gR, .ref c0, .ref w0, .ref v0, .ref gB, .ref p0, .int (nI cd), .int db, .int st, .int bw, .int ki, .int sg, .int 1]))] H := hP
  refine lv_iload_n hx hb dX5_askKey_10 rfl (lv_at hl 0 rfl) ?_
  exact W.zret (v := r_1) hx hb hr (nar01 (by rw [hr_1]; exact kdI_01 _ _ _ _)) (fun t ht hW => ⟨⟨r_1, (), rfl, trivial, by show va_P _ _ _ t.heap; rw [ht]; exact hP.sub [0] rfl⟩, hS.F ht⟩) hS.2.2 dX5_askKey_11
set_option maxHeartbeats 4000000 in
set_option maxRecDepth 100000 in
theorem C_X5_refuseIfFull (l : Launch) (dC : Nat → ClassId) (dI : Nat → Nat → Nat) (cI cZ cP : ClassId) (N0 tO : Nat) (g0 gC gR c0 w0 v0 gB p0 cd : Nat) (db st bw ki sg ak : Int32) (hcd : cd < 24) : Met l yX5_refuseIfFull wsX5_refuseIfFull ({ frames := 1, cells := 0, slots := 0, locals := 21 } : Room) (Gv (dC, dI) cI cZ cP N0 tO [.ref g0] (fun H => va_P (dC, dI) vwCl [(g0, .inr (5, [.ref gC, .ref gR, .ref c0, .ref w0, .ref v0, .ref gB, .ref p0, .int (nI cd), .int db, .int st, .int bw, .int ki, .int sg, .int ak]))] H)) (va_Sv (fun r : Unit => True)) 0 0 (fun _ => False) := by
  refine Met.ofW (cc := cX5_refuseIfFull) (maxL := 1) (ret := none) (by decide) rfl ?_
  intro p e s m args below meth c s₁ B hml hv
  obtain ⟨rfl, hE, hP⟩ := hv
  have hx := B.exec
  have hb := B.bytes
  have hr := B.returns
  have hts := atoms_spec (ws := wsX5_refuseIfFull) B.pre
  have hown : s.vm.findClass RX5 = some m.cls := findClass_of_methodNamed B.named
  have hlocks := B.notSynchronized
  have hK := hE.1
  have hNS := hE.2.1
  have hP : va_P (dC, dI) vwCl [(g0, .inr (5, [.ref gC, .ref gR, .ref c0, .ref w0, .ref v0, .ref gB, .ref p0, .int (nI cd), .int db, .int st, .int bw, .int ki, .int sg, .int ak]))] s.heap := hP
  have hinX5 : ∀ w ∈ wsX50, w ∈ wsX5_refuseIfFull := by decide +kernel
  have hl := lv_entry ([.ref g0]) (n := 1) (Nat.le_of_ble_eq_true rfl)
  rw [lg_entry_eq]
  generalize (lg_sl ([.ref g0]) ++ List.replicate (1 - (lg_sl ([.ref g0])).length) Slot.unset).toArray = ls at hl ⊢
  have hl : lv_has ls 1 [(0, .ref g0)] := hl
  refine lv_aload_n hx hb dX5_refuseIfFull_0 rfl (lv_at hl 0 rfl) ?_
  refine va_get (D := (dC, dI)) (ci := 5) (v := .int (nI cd)) (C := RX5) (T := TX5) (N := 14) hx hb hts hinX5 hown hK hP 0 rfl rfl 7 (by decide) (hts (.fieldLink RX5 48 "GreyReel" "coded" "I") (List.mem_of_getElem? (i := 3) (by decide +kernel))) (fun _ h9 => h9) rfl dX5_refuseIfFull_1 ?_
  refine lv_bipush (v := 24) hx hb dX5_refuseIfFull_4 (by decide +kernel) ?_
  refine lv_icmp_lt (tgt := 20) hx hb dX5_refuseIfFull_6 (by decide) (fun c6 => ?_) (fun c6 => ?_)
  · skip
    have c6 : cd < 24 := (nI_ltI (a := cd) (b := 24) (by omega) (by omega)).mp c6
    exact W.vret hx hb hr (fun t ht hW => ⟨rfl, trivial, ht⟩) (fun _ h => by cases h) dX5_refuseIfFull_20
  · skip
    have c6 : ¬ cd < 24 := fun z => c6 ((nI_ltI (a := cd) (b := 24) (by omega) (by omega)).mpr z)
    exact False.elim (by omega)
set_option maxHeartbeats 4000000 in
set_option maxRecDepth 100000 in
theorem C_X5_fill (l : Launch) (dC : Nat → ClassId) (dI : Nat → Nat → Nat) (cI cZ cP : ClassId) (N0 tO : Nat) (g0 gC gR c0 w0 v0 gB p0 cd : Nat) (db st bw ki sg ak : Int32) (fc : Nat → Int32) (x : Int32) (hx255 : 0 ≤ x.toInt ∧ x.toInt ≤ 255) (hc0 : rng fc 768) : Met l yX5_fill wsX5_fill ({ frames := 1, cells := 0, slots := 0, locals := 22 } : Room) (Gv (dC, dI) cI cZ cP N0 tO [.ref g0, .int x] (fun H => va_P (dC, dI) vwCl [(g0, .inr (5, [.ref gC, .ref gR, .ref c0, .ref w0, .ref v0, .ref gB, .ref p0, .int (nI cd), .int db, .int st, .int bw, .int ki, .int sg, .int ak])), (gC, .inl (cI, 768, .inl fc))] H ∧ AD N0 [g0, gC])) (va_Qi (fun (r : Int32) (f9 : (Nat → Int32)) => rng f9 768) (fun (f9 : (Nat → Int32)) (t : State) => va_P (dC, dI) vwCl [(gC, .inl (cI, 768, .inl f9))] t.heap) (inL [gC])) 0 0 (inL [gC]) := by
  refine Met.ofW (cc := cX5_fill) (maxL := 4) (ret := (some .int)) (by decide) rfl ?_
  intro p e s m args below meth c s₁ B hml hv
  obtain ⟨rfl, hE, hP, hN⟩ := hv
  have hx := B.exec
  have hb := B.bytes
  have hr := B.returns
  have hts := atoms_spec (ws := wsX5_fill) B.pre
  have hown : s.vm.findClass RX5 = some m.cls := findClass_of_methodNamed B.named
  have hlocks := B.notSynchronized
  have hK := hE.1
  have hNS := hE.2.1
  have hS : va_S (inL [gC]) s.heap s.heap [] := va_S.rf
  have hAN : ∀ q : Nat, (inL [gC]) q → N0 ≤ q := fun q h => hN.in [1] rfl q h
  have hP : va_P (dC, dI) vwCl [(g0, .inr (5, [.ref gC, .ref gR, .ref c0, .ref w0, .ref v0, .ref gB, .ref p0, .int (nI cd), .int db, .int st, .int bw, .int ki, .int sg, .int ak])), (gC, .inl (cI, 768, .inl fc))] s.heap := hP
  have hinX5 : ∀ w ∈ wsX50, w ∈ wsX5_fill := by decide +kernel
  have hl := lv_entry ([.ref g0, .int x]) (n := 4) (Nat.le_of_ble_eq_true rfl)
  rw [lg_entry_eq]
  generalize (lg_sl ([.ref g0, .int x]) ++ List.replicate (4 - (lg_sl ([.ref g0, .int x])).length) Slot.unset).toArray = ls at hl ⊢
  have hl : lv_has ls 4 [(0, .ref g0), (1, .int x)] := hl
  refine lv_iload_n hx hb dX5_fill_0 rfl (lv_at hl 1 rfl) ?_
  refine lv_iconst (v := 0) hx hb dX5_fill_1 (by decide) ?_
  refine lv_sipush (v := 255) hx hb dX5_fill_2 (by decide +kernel) ?_
  refine vp_callSi (va_Run.run (va_runS (As := [.int x, .int 0, .int 255]) (rest := []) ⟨hx, hb, hml, hown, hts⟩ (C_X5_isWithin l dC dI cI cZ cP N0 tO x 0 255 ) (va_cwS 3 hts gX5_fill_X5_isWithin rfl rfl rfl (by decide +kernel) ⟨Nat.le_of_ble_eq_true rfl, Nat.le_of_ble_eq_true rfl⟩) ⟨Gv.blind, Gv.of (hE.S hS hAN) trivial⟩ rfl rfl hl.1 rfl (lv_room (Nat.le_of_ble_eq_true rfl)) dX5_fill_5 ⟨Nat.le_of_ble_eq_true rfl, Nat.le_of_ble_eq_true rfl⟩)) (fun r_1 hr_1 => ?_)
  have hr_1 : r_1 = isWithinI x 0 255 := hr_1
  refine lv_if_ne (tgt := 21) hx hb dX5_fill_8 (by decide) (fun c8 => ?_) (fun c8 => ?_)
  · skip
    refine lv_iconst (v := 0) hx hb dX5_fill_21 (by decide) ?_
    refine lv_istore_n (lv' := [(2, .int 0), (0, .ref g0), (1, .int x)]) hx hb dX5_fill_22 rfl hl (by decide) rfl (fun ls hl => ?_)
    refine lv_iconst (v := 0) hx hb dX5_fill_23 (by decide) ?_
    refine lv_istore_n (lv' := [(3, .int 0), (2, .int 0), (0, .ref g0), (1, .int x)]) hx hb dX5_fill_24 rfl hl (by decide) rfl (fun ls hl => ?_)
    have L25 : ∀ (n25 : Nat) (i : Nat) (x2 : Int32) (f1 : Nat → Int32), (i ≤ 768) → (rng f1 768) → 768 - i < n25 → ∀ (H : Heap) (locs : List Loc) (ls : Array Slot), va_P (dC, dI) vwCl [(g0, .inr (5, [.ref gC, .ref gR, .ref c0, .ref w0, .ref v0, .ref gB, .ref p0, .int (nI cd), .int db, .int st, .int bw, .int ki, .int sg, .int ak])), (gC, .inl (cI, 768, .inl f1))] H → va_S (inL [gC]) s.heap H locs → lv_has ls 4 [(3, .int (nI i)), (2, .int x2), (0, .ref g0), (1, .int x)] → W p l e (headSpec wsX5_fill ({ frames := 1, cells := 0, slots := 0, locals := 22 } : Room)).room s m ([.ref g0, .int x] : List Value).toArray below meth c H locs 0 0 (MQ below (va_Qi (fun (r : Int32) (f9 : (Nat → Int32)) => rng f9 768) (fun (f9 : (Nat → Int32)) (t : State) => va_P (dC, dI) vwCl [(gC, .inl (cI, 768, .inl f9))] t.heap) (inL [gC])) ([.ref g0, .int x] : List Value).toArray s 0 0 (inL [gC])) (F0 m 25 ls []) := by
      intro n25
      induction n25 with
      | zero => intro i x2 f1 hi hf hz; exact absurd hz (Nat.not_lt_zero _)
      | succ n25 ih25 =>
        intro i x2 f1 hi hf hfu H locs ls hP hS hl
        refine lv_iload_n hx hb dX5_fill_25 rfl (lv_at hl 0 rfl) ?_
        refine lv_sipush (v := 768) hx hb dX5_fill_26 (by decide +kernel) ?_
        refine lv_icmp_ge (tgt := 63) hx hb dX5_fill_29 (by decide) (fun c29 => ?_) (fun c29 => ?_)
        · skip
          have c29 : 768 ≤ i := (nI_leI (a := 768) (b := i) (by omega) (by omega)).mp c29
          obtain rfl : i = 768 := by omega
          refine lv_iload_n hx hb dX5_fill_63 rfl (lv_at hl 1 rfl) ?_
          exact W.iret (v := x2) hx hb hr (fun t ht hW => ⟨⟨x2, f1, rfl, hf, by show va_P _ _ _ t.heap; rw [ht]; exact hP.sub [1] rfl⟩, hS.F ht⟩) hS.2.2 dX5_fill_64
        · skip
          have c29 : ¬ 768 ≤ i := fun z => c29 ((nI_leI (a := 768) (b := i) (by omega) (by omega)).mpr z)
          refine lv_iload_n hx hb dX5_fill_32 rfl (lv_at hl 1 rfl) ?_
          refine lv_aload_n hx hb dX5_fill_33 rfl (lv_at hl 2 rfl) ?_
          refine va_get (D := (dC, dI)) (ci := 5) (v := .ref gC) (C := RX5) (T := TX5) (N := 14) hx hb hts hinX5 hown hK hP 0 rfl rfl 0 (by decide) (hts (.fieldLink RX5 9 "GreyReel" "canvas" "[I") (List.mem_of_getElem? (i := 3) (by decide +kernel))) (fun _ h9 => h9) rfl dX5_fill_34 ?_
          refine lv_iload_n hx hb dX5_fill_37 rfl (lv_at hl 0 rfl) ?_
          refine wa_iald (D := (dC, dI)) (i := i) (f := f1) hx hb hK hP 1 0 rfl rfl (by omega) (by omega) dX5_fill_38 ?_
          refine lv_iload_n hx hb dX5_fill_39 rfl (lv_at hl 3 rfl) ?_
          refine lv_icmp_ne (tgt := 47) hx hb dX5_fill_40 (by decide) (fun c40 => ?_) (fun c40 => ?_)
          · skip
            refine lv_iconst (v := 1) hx hb dX5_fill_47 (by decide) ?_
            refine lv_iadd hx hb dX5_fill_48 ?_
            refine lv_topi (fun x_2 ex_2 => ?_)
            refine lv_istore_n (lv' := [(2, .int x_2), (3, .int (nI i)), (0, .ref g0), (1, .int x)]) hx hb dX5_fill_49 rfl hl (by decide) rfl (fun ls hl => ?_)
            refine lv_aload_n hx hb dX5_fill_50 rfl (lv_at hl 2 rfl) ?_
            refine va_get (D := (dC, dI)) (ci := 5) (v := .ref gC) (C := RX5) (T := TX5) (N := 14) hx hb hts hinX5 hown hK hP 0 rfl rfl 0 (by decide) (hts (.fieldLink RX5 9 "GreyReel" "canvas" "[I") (List.mem_of_getElem? (i := 3) (by decide +kernel))) (fun _ h9 => h9) rfl dX5_fill_51 ?_
            refine lv_iload_n hx hb dX5_fill_54 rfl (lv_at hl 1 rfl) ?_
            refine lv_iload_n hx hb dX5_fill_55 rfl (lv_at hl 3 rfl) ?_
            refine wa_iast (D := (dC, dI)) (i := i) (f := f1) hx hb hK hP (hN.D rfl) hS (List.mem_of_getElem? (i := 0) rfl) 1 0 rfl rfl (by omega) (by omega) dX5_fill_56 (fun H locs hP hS => ?_)
            obtain ⟨f_3, ef_3⟩ : ∃ z, z = upd f1 i x := ⟨_, rfl⟩
            rw [← ef_3] at hP
            have hP : va_P (dC, dI) vwCl [(g0, .inr (5, [.ref gC, .ref gR, .ref c0, .ref w0, .ref v0, .ref gB, .ref p0, .int (nI cd), .int db, .int st, .int bw, .int ki, .int sg, .int ak])), (gC, .inl (cI, 768, .inl f_3))] H := hP
            refine lv_iinc (v := nI (i + 1)) (lv' := [(3, .int (nI (i + 1))), (2, .int x_2), (0, .ref g0), (1, .int x)]) hx hb dX5_fill_57 hl (k := 1) rfl (show nI i + Int32.ofInt 1 = nI (i + 1) from nI_add _ _) (by decide) rfl (fun ls hl => ?_)
            refine lv_goto (tgt := 25) hx hb dX5_fill_60 (by decide) ?_
            exact ih25 (i + 1) x_2 f_3 (by omega) (by rw [ef_3]; exact rng_upd hf hx255) (by omega) _ _ _ hP hS (lv_sub hl [0, 1, 2, 3] rfl)
          · skip
            refine lv_iconst (v := 0) hx hb dX5_fill_43 (by decide) ?_
            refine lv_goto (tgt := 48) hx hb dX5_fill_44 (by decide) ?_
            refine lv_iadd hx hb dX5_fill_48 ?_
            refine lv_topi (fun x_4 ex_4 => ?_)
            refine lv_istore_n (lv' := [(2, .int x_4), (3, .int (nI i)), (0, .ref g0), (1, .int x)]) hx hb dX5_fill_49 rfl hl (by decide) rfl (fun ls hl => ?_)
            refine lv_aload_n hx hb dX5_fill_50 rfl (lv_at hl 2 rfl) ?_
            refine va_get (D := (dC, dI)) (ci := 5) (v := .ref gC) (C := RX5) (T := TX5) (N := 14) hx hb hts hinX5 hown hK hP 0 rfl rfl 0 (by decide) (hts (.fieldLink RX5 9 "GreyReel" "canvas" "[I") (List.mem_of_getElem? (i := 3) (by decide +kernel))) (fun _ h9 => h9) rfl dX5_fill_51 ?_
            refine lv_iload_n hx hb dX5_fill_54 rfl (lv_at hl 1 rfl) ?_
            refine lv_iload_n hx hb dX5_fill_55 rfl (lv_at hl 3 rfl) ?_
            refine wa_iast (D := (dC, dI)) (i := i) (f := f1) hx hb hK hP (hN.D rfl) hS (List.mem_of_getElem? (i := 0) rfl) 1 0 rfl rfl (by omega) (by omega) dX5_fill_56 (fun H locs hP hS => ?_)
            obtain ⟨f_5, ef_5⟩ : ∃ z, z = upd f1 i x := ⟨_, rfl⟩
            rw [← ef_5] at hP
            have hP : va_P (dC, dI) vwCl [(g0, .inr (5, [.ref gC, .ref gR, .ref c0, .ref w0, .ref v0, .ref gB, .ref p0, .int (nI cd), .int db, .int st, .int bw, .int ki, .int sg, .int ak])), (gC, .inl (cI, 768, .inl f_5))] H := hP
            refine lv_iinc (v := nI (i + 1)) (lv' := [(3, .int (nI (i + 1))), (2, .int x_4), (0, .ref g0), (1, .int x)]) hx hb dX5_fill_57 hl (k := 1) rfl (show nI i + Int32.ofInt 1 = nI (i + 1) from nI_add _ _) (by decide) rfl (fun ls hl => ?_)
            refine lv_goto (tgt := 25) hx hb dX5_fill_60 (by decide) ?_
            exact ih25 (i + 1) x_4 f_5 (by omega) (by rw [ef_5]; exact rng_upd hf hx255) (by omega) _ _ _ hP hS (lv_sub hl [0, 1, 2, 3] rfl)
    exact L25 (768 + 1) 0 0 fc (by omega) hc0 (Nat.lt_succ_self _) _ _ _ hP hS (lv_sub hl [0, 1, 2, 3] rfl)
  · skip
    exact False.elim (isW_no hr_1 (show (0 : Int32).toInt ≤ _ ∧ _ ≤ (255 : Int32).toInt from hx255) c8)
set_option maxHeartbeats 4000000 in
set_option maxRecDepth 100000 in
theorem C_X5_box (l : Launch) (dC : Nat → ClassId) (dI : Nat → Nat → Nat) (cI cZ cP : ClassId) (N0 tO : Nat) (g0 gC gR c0 w0 v0 gB p0 cd : Nat) (db st bw ki sg ak : Int32) (fc : Nat → Int32) (x y wd hg x5 : Int32) (hxr : -32 ≤ x.toInt ∧ x.toInt ≤ 32) (hy : -32 ≤ y.toInt ∧ y.toInt ≤ 32) (hwd : 1 ≤ wd.toInt ∧ wd.toInt ≤ 32) (hhg : 1 ≤ hg.toInt ∧ hg.toInt ≤ 32) (h255 : 0 ≤ x5.toInt ∧ x5.toInt ≤ 255) (hc0 : rng fc 768) : Met l yX5_box wsX5_box ({ frames := 1, cells := 0, slots := 0, locals := 32 } : Room) (Gv (dC, dI) cI cZ cP N0 tO [.ref g0, .int x, .int y, .int wd, .int hg, .int x5] (fun H => va_P (dC, dI) vwCl [(g0, .inr (5, [.ref gC, .ref gR, .ref c0, .ref w0, .ref v0, .ref gB, .ref p0, .int (nI cd), .int db, .int st, .int bw, .int ki, .int sg, .int ak])), (gC, .inl (cI, 768, .inl fc))] H ∧ AD N0 [g0, gC])) (va_Qi (fun (r : Int32) (f9 : (Nat → Int32)) => rng f9 768) (fun (f9 : (Nat → Int32)) (t : State) => va_P (dC, dI) vwCl [(gC, .inl (cI, 768, .inl f9))] t.heap) (inL [gC])) 0 0 (inL [gC]) := by
  refine Met.ofW (cc := cX5_box) (maxL := 9) (ret := (some .int)) (by decide) rfl ?_
  intro p e s m args below meth c s₁ B hml hv
  obtain ⟨rfl, hE, hP, hN⟩ := hv
  have hx := B.exec
  have hb := B.bytes
  have hr := B.returns
  have hts := atoms_spec (ws := wsX5_box) B.pre
  have hown : s.vm.findClass RX5 = some m.cls := findClass_of_methodNamed B.named
  have hlocks := B.notSynchronized
  have hK := hE.1
  have hNS := hE.2.1
  have hS : va_S (inL [gC]) s.heap s.heap [] := va_S.rf
  have hAN : ∀ q : Nat, (inL [gC]) q → N0 ≤ q := fun q h => hN.in [1] rfl q h
  have hP : va_P (dC, dI) vwCl [(g0, .inr (5, [.ref gC, .ref gR, .ref c0, .ref w0, .ref v0, .ref gB, .ref p0, .int (nI cd), .int db, .int st, .int bw, .int ki, .int sg, .int ak])), (gC, .inl (cI, 768, .inl fc))] s.heap := hP
  have hinX5 : ∀ w ∈ wsX50, w ∈ wsX5_box := by decide +kernel
  have hl := lv_entry ([.ref g0, .int x, .int y, .int wd, .int hg, .int x5]) (n := 9) (Nat.le_of_ble_eq_true rfl)
  rw [lg_entry_eq]
  generalize (lg_sl ([.ref g0, .int x, .int y, .int wd, .int hg, .int x5]) ++ List.replicate (9 - (lg_sl ([.ref g0, .int x, .int y, .int wd, .int hg, .int x5])).length) Slot.unset).toArray = ls at hl ⊢
  have hl : lv_has ls 9 [(0, .ref g0), (1, .int x), (2, .int y), (3, .int wd), (4, .int hg), (5, .int x5)] := hl
  refine lv_iload_n hx hb dX5_box_0 rfl (lv_at hl 1 rfl) ?_
  refine lv_bipush (v := (-32)) hx hb dX5_box_1 (by decide +kernel) ?_
  refine lv_bipush (v := 32) hx hb dX5_box_3 (by decide +kernel) ?_
  refine vp_callSi (va_Run.run (va_runS (As := [.int x, .int (-32), .int 32]) (rest := []) ⟨hx, hb, hml, hown, hts⟩ (C_X5_isWithin l dC dI cI cZ cP N0 tO x (-32) 32 ) (va_cwS 3 hts gX5_box_X5_isWithin rfl rfl rfl (by decide +kernel) ⟨Nat.le_of_ble_eq_true rfl, Nat.le_of_ble_eq_true rfl⟩) ⟨Gv.blind, Gv.of (hE.S hS hAN) trivial⟩ rfl rfl hl.1 rfl (lv_room (Nat.le_of_ble_eq_true rfl)) dX5_box_5 ⟨Nat.le_of_ble_eq_true rfl, Nat.le_of_ble_eq_true rfl⟩)) (fun r_1 hr_1 => ?_)
  have hr_1 : r_1 = isWithinI x (-32) 32 := hr_1
  refine lv_if_eq (tgt := 22) hx hb dX5_box_8 (by decide) (fun c8 => ?_) (fun c8 => ?_)
  · skip
    exact False.elim (isW_no hr_1 (show (-32 : Int32).toInt ≤ _ ∧ _ ≤ (32 : Int32).toInt from hxr) c8)
  · skip
    refine lv_iload_n hx hb dX5_box_11 rfl (lv_at hl 2 rfl) ?_
    refine lv_bipush (v := (-32)) hx hb dX5_box_12 (by decide +kernel) ?_
    refine lv_bipush (v := 32) hx hb dX5_box_14 (by decide +kernel) ?_
    refine vp_callSi (va_Run.run (va_runS (As := [.int y, .int (-32), .int 32]) (rest := []) ⟨hx, hb, hml, hown, hts⟩ (C_X5_isWithin l dC dI cI cZ cP N0 tO y (-32) 32 ) (va_cwS 3 hts gX5_box_X5_isWithin rfl rfl rfl (by decide +kernel) ⟨Nat.le_of_ble_eq_true rfl, Nat.le_of_ble_eq_true rfl⟩) ⟨Gv.blind, Gv.of (hE.S hS hAN) trivial⟩ rfl rfl hl.1 rfl (lv_room (Nat.le_of_ble_eq_true rfl)) dX5_box_16 ⟨Nat.le_of_ble_eq_true rfl, Nat.le_of_ble_eq_true rfl⟩)) (fun r_2 hr_2 => ?_)
    have hr_2 : r_2 = isWithinI y (-32) 32 := hr_2
    refine lv_if_ne (tgt := 32) hx hb dX5_box_19 (by decide) (fun c19 => ?_) (fun c19 => ?_)
    · skip
      refine lv_iload_n hx hb dX5_box_32 rfl (lv_at hl 3 rfl) ?_
      refine lv_iconst (v := 1) hx hb dX5_box_33 (by decide) ?_
      refine lv_bipush (v := 32) hx hb dX5_box_34 (by decide +kernel) ?_
      refine vp_callSi (va_Run.run (va_runS (As := [.int wd, .int 1, .int 32]) (rest := []) ⟨hx, hb, hml, hown, hts⟩ (C_X5_isWithin l dC dI cI cZ cP N0 tO wd 1 32 ) (va_cwS 3 hts gX5_box_X5_isWithin rfl rfl rfl (by decide +kernel) ⟨Nat.le_of_ble_eq_true rfl, Nat.le_of_ble_eq_true rfl⟩) ⟨Gv.blind, Gv.of (hE.S hS hAN) trivial⟩ rfl rfl hl.1 rfl (lv_room (Nat.le_of_ble_eq_true rfl)) dX5_box_36 ⟨Nat.le_of_ble_eq_true rfl, Nat.le_of_ble_eq_true rfl⟩)) (fun r_3 hr_3 => ?_)
      have hr_3 : r_3 = isWithinI wd 1 32 := hr_3
      refine lv_if_eq (tgt := 53) hx hb dX5_box_39 (by decide) (fun c39 => ?_) (fun c39 => ?_)
      · skip
        exact False.elim (isW_no hr_3 (show (1 : Int32).toInt ≤ _ ∧ _ ≤ (32 : Int32).toInt from hwd) c39)
      · skip
        refine lv_iload hx hb dX5_box_42 (lv_at hl 4 rfl) ?_
        refine lv_iconst (v := 1) hx hb dX5_box_44 (by decide) ?_
        refine lv_bipush (v := 32) hx hb dX5_box_45 (by decide +kernel) ?_
        refine vp_callSi (va_Run.run (va_runS (As := [.int hg, .int 1, .int 32]) (rest := []) ⟨hx, hb, hml, hown, hts⟩ (C_X5_isWithin l dC dI cI cZ cP N0 tO hg 1 32 ) (va_cwS 3 hts gX5_box_X5_isWithin rfl rfl rfl (by decide +kernel) ⟨Nat.le_of_ble_eq_true rfl, Nat.le_of_ble_eq_true rfl⟩) ⟨Gv.blind, Gv.of (hE.S hS hAN) trivial⟩ rfl rfl hl.1 rfl (lv_room (Nat.le_of_ble_eq_true rfl)) dX5_box_47 ⟨Nat.le_of_ble_eq_true rfl, Nat.le_of_ble_eq_true rfl⟩)) (fun r_4 hr_4 => ?_)
        have hr_4 : r_4 = isWithinI hg 1 32 := hr_4
        refine lv_if_ne (tgt := 63) hx hb dX5_box_50 (by decide) (fun c50 => ?_) (fun c50 => ?_)
        · skip
          refine lv_iload hx hb dX5_box_63 (lv_at hl 5 rfl) ?_
          refine lv_iconst (v := 0) hx hb dX5_box_65 (by decide) ?_
          refine lv_sipush (v := 255) hx hb dX5_box_66 (by decide +kernel) ?_
          refine vp_callSi (va_Run.run (va_runS (As := [.int x5, .int 0, .int 255]) (rest := []) ⟨hx, hb, hml, hown, hts⟩ (C_X5_isWithin l dC dI cI cZ cP N0 tO x5 0 255 ) (va_cwS 3 hts gX5_box_X5_isWithin rfl rfl rfl (by decide +kernel) ⟨Nat.le_of_ble_eq_true rfl, Nat.le_of_ble_eq_true rfl⟩) ⟨Gv.blind, Gv.of (hE.S hS hAN) trivial⟩ rfl rfl hl.1 rfl (lv_room (Nat.le_of_ble_eq_true rfl)) dX5_box_69 ⟨Nat.le_of_ble_eq_true rfl, Nat.le_of_ble_eq_true rfl⟩)) (fun r_5 hr_5 => ?_)
          have hr_5 : r_5 = isWithinI x5 0 255 := hr_5
          refine lv_if_ne (tgt := 85) hx hb dX5_box_72 (by decide) (fun c72 => ?_) (fun c72 => ?_)
          · skip
            refine lv_iconst (v := 0) hx hb dX5_box_85 (by decide) ?_
            refine lv_istore (lv' := [(6, .int 0), (0, .ref g0), (1, .int x), (2, .int y), (3, .int wd), (4, .int hg), (5, .int x5)]) hx hb dX5_box_86 hl (by decide) rfl (fun ls hl => ?_)
            refine lv_iload_n hx hb dX5_box_88 rfl (lv_at hl 3 rfl) ?_
            refine lv_iconst (v := 0) hx hb dX5_box_89 (by decide) ?_
            refine va_mmax hx hb (hml.trans hl.1.symm) hown (hts (.methodLink RX5 86 Lib.Math.max.name) (List.mem_of_getElem? (i := 3) (by decide +kernel))) (hts (.static Lib.Math.max.name) (List.mem_of_getElem? (i := 4) (by decide +kernel))) (hts (.initialized "java/lang/Math") (List.mem_of_getElem? (i := 5) (by decide +kernel))) (hts (.code Lib.Math.max.name Lib.Math.max.code 2 (some .int)) (List.mem_of_getElem? (i := 6) (by decide +kernel))) (Nat.le_of_ble_eq_true rfl) (Nat.le_of_ble_eq_true rfl) (Nat.le_of_ble_eq_true rfl) (Nat.le_of_ble_eq_true rfl) dX5_box_90 ?_
            refine lv_topr (show _ = nI (mxN y) from mxN_eq y) ?_
            refine lv_istore (lv' := [(7, .int (nI (mxN y))), (6, .int 0), (0, .ref g0), (1, .int x), (2, .int y), (3, .int wd), (4, .int hg), (5, .int x5)]) hx hb dX5_box_93 hl (by decide) rfl (fun ls hl => ?_)
            have L95 : ∀ (n95 : Nat) (i : Nat) (x6 : Int32) (f1 : Nat → Int32), (i ≤ 32) → (rng f1 768) → 33 - i < n95 → ∀ (H : Heap) (locs : List Loc) (ls : Array Slot), va_P (dC, dI) vwCl [(g0, .inr (5, [.ref gC, .ref gR, .ref c0, .ref w0, .ref v0, .ref gB, .ref p0, .int (nI cd), .int db, .int st, .int bw, .int ki, .int sg, .int ak])), (gC, .inl (cI, 768, .inl f1))] H → va_S (inL [gC]) s.heap H locs → lv_has ls 9 [(7, .int (nI i)), (6, .int x6), (0, .ref g0), (1, .int x), (2, .int y), (3, .int wd), (4, .int hg), (5, .int x5)] → W p l e (headSpec wsX5_box ({ frames := 1, cells := 0, slots := 0, locals := 32 } : Room)).room s m ([.ref g0, .int x, .int y, .int wd, .int hg, .int x5] : List Value).toArray below meth c H locs 0 0 (MQ below (va_Qi (fun (r : Int32) (f9 : (Nat → Int32)) => rng f9 768) (fun (f9 : (Nat → Int32)) (t : State) => va_P (dC, dI) vwCl [(gC, .inl (cI, 768, .inl f9))] t.heap) (inL [gC])) ([.ref g0, .int x, .int y, .int wd, .int hg, .int x5] : List Value).toArray s 0 0 (inL [gC])) (F0 m 95 ls []) := by
              intro n95
              induction n95 with
              | zero => intro i x6 f1 hi hf hz; exact absurd hz (Nat.not_lt_zero _)
              | succ n95 ih95 =>
                intro i x6 f1 hi hf hfu H locs ls hP hS hl
                refine lv_iload hx hb dX5_box_95 (lv_at hl 0 rfl) ?_
                refine lv_iload_n hx hb dX5_box_97 rfl (lv_at hl 4 rfl) ?_
                refine lv_iload hx hb dX5_box_98 (lv_at hl 6 rfl) ?_
                refine lv_iadd hx hb dX5_box_100 ?_
                refine lv_bipush (v := 24) hx hb dX5_box_101 (by decide +kernel) ?_
                refine va_mmin hx hb (hml.trans hl.1.symm) hown (hts (.methodLink RX5 92 Lib.Math.min.name) (List.mem_of_getElem? (i := 7) (by decide +kernel))) (hts (.static Lib.Math.min.name) (List.mem_of_getElem? (i := 8) (by decide +kernel))) (hts (.initialized "java/lang/Math") (List.mem_of_getElem? (i := 5) (by decide +kernel))) (hts (.code Lib.Math.min.name Lib.Math.min.code 2 (some .int)) (List.mem_of_getElem? (i := 9) (by decide +kernel))) (Nat.le_of_ble_eq_true rfl) (Nat.le_of_ble_eq_true rfl) (Nat.le_of_ble_eq_true rfl) (Nat.le_of_ble_eq_true rfl) dX5_box_103 ?_
                refine lv_topr (show _ = minI (y + hg) 24 from rfl) ?_
                refine lv_icmp_ge (tgt := 159) hx hb dX5_box_106 (by decide) (fun c106 => ?_) (fun c106 => ?_)
                · skip
                  refine lv_iload hx hb dX5_box_159 (lv_at hl 1 rfl) ?_
                  exact W.iret (v := x6) hx hb hr (fun t ht hW => ⟨⟨x6, f1, rfl, hf, by show va_P _ _ _ t.heap; rw [ht]; exact hP.sub [1] rfl⟩, hS.F ht⟩) hS.2.2 dX5_box_161
                · skip
                  have hi24 := min_24 c106 hi
                  refine lv_iload_n hx hb dX5_box_109 rfl (lv_at hl 3 rfl) ?_
                  refine lv_iconst (v := 0) hx hb dX5_box_110 (by decide) ?_
                  refine va_mmax hx hb (hml.trans hl.1.symm) hown (hts (.methodLink RX5 86 Lib.Math.max.name) (List.mem_of_getElem? (i := 3) (by decide +kernel))) (hts (.static Lib.Math.max.name) (List.mem_of_getElem? (i := 4) (by decide +kernel))) (hts (.initialized "java/lang/Math") (List.mem_of_getElem? (i := 5) (by decide +kernel))) (hts (.code Lib.Math.max.name Lib.Math.max.code 2 (some .int)) (List.mem_of_getElem? (i := 6) (by decide +kernel))) (Nat.le_of_ble_eq_true rfl) (Nat.le_of_ble_eq_true rfl) (Nat.le_of_ble_eq_true rfl) (Nat.le_of_ble_eq_true rfl) dX5_box_111 ?_
                  refine lv_topr (show _ = nI (mxN x) from mxN_eq x) ?_
                  refine lv_istore (lv' := [(8, .int (nI (mxN x))), (7, .int (nI i)), (6, .int x6), (0, .ref g0), (1, .int x), (2, .int y), (3, .int wd), (4, .int hg), (5, .int x5)]) hx hb dX5_box_114 hl (by decide) rfl (fun ls hl => ?_)
                  have L116 : ∀ (n116 : Nat) (j : Nat) (y6 : Int32) (f2 : Nat → Int32), (j ≤ 32) → (rng f2 768) → 33 - j < n116 → ∀ (H : Heap) (locs : List Loc) (ls : Array Slot), va_P (dC, dI) vwCl [(g0, .inr (5, [.ref gC, .ref gR, .ref c0, .ref w0, .ref v0, .ref gB, .ref p0, .int (nI cd), .int db, .int st, .int bw, .int ki, .int sg, .int ak])), (gC, .inl (cI, 768, .inl f2))] H → va_S (inL [gC]) s.heap H locs → lv_has ls 9 [(8, .int (nI j)), (7, .int (nI i)), (6, .int y6), (0, .ref g0), (1, .int x), (2, .int y), (3, .int wd), (4, .int hg), (5, .int x5)] → W p l e (headSpec wsX5_box ({ frames := 1, cells := 0, slots := 0, locals := 32 } : Room)).room s m ([.ref g0, .int x, .int y, .int wd, .int hg, .int x5] : List Value).toArray below meth c H locs 0 0 (MQ below (va_Qi (fun (r : Int32) (f9 : (Nat → Int32)) => rng f9 768) (fun (f9 : (Nat → Int32)) (t : State) => va_P (dC, dI) vwCl [(gC, .inl (cI, 768, .inl f9))] t.heap) (inL [gC])) ([.ref g0, .int x, .int y, .int wd, .int hg, .int x5] : List Value).toArray s 0 0 (inL [gC])) (F0 m 116 ls []) := by
                    intro n116
                    induction n116 with
                    | zero => intro j y6 f2 hj hg1 hz; exact absurd hz (Nat.not_lt_zero _)
                    | succ n116 ih116 =>
                      intro j y6 f2 hj hg1 hfu H locs ls hP hS hl
                      refine lv_iload hx hb dX5_box_116 (lv_at hl 0 rfl) ?_
                      refine lv_iload_n hx hb dX5_box_118 rfl (lv_at hl 4 rfl) ?_
                      refine lv_iload_n hx hb dX5_box_119 rfl (lv_at hl 6 rfl) ?_
                      refine lv_iadd hx hb dX5_box_120 ?_
                      refine lv_bipush (v := 32) hx hb dX5_box_121 (by decide +kernel) ?_
                      refine va_mmin hx hb (hml.trans hl.1.symm) hown (hts (.methodLink RX5 92 Lib.Math.min.name) (List.mem_of_getElem? (i := 7) (by decide +kernel))) (hts (.static Lib.Math.min.name) (List.mem_of_getElem? (i := 8) (by decide +kernel))) (hts (.initialized "java/lang/Math") (List.mem_of_getElem? (i := 5) (by decide +kernel))) (hts (.code Lib.Math.min.name Lib.Math.min.code 2 (some .int)) (List.mem_of_getElem? (i := 9) (by decide +kernel))) (Nat.le_of_ble_eq_true rfl) (Nat.le_of_ble_eq_true rfl) (Nat.le_of_ble_eq_true rfl) (Nat.le_of_ble_eq_true rfl) dX5_box_123 ?_
                      refine lv_topr (show _ = minI (x + wd) 32 from rfl) ?_
                      refine lv_icmp_ge (tgt := 153) hx hb dX5_box_126 (by decide) (fun c126 => ?_) (fun c126 => ?_)
                      · skip
                        refine lv_iinc (v := nI (i + 1)) (lv' := [(7, .int (nI (i + 1))), (8, .int (nI j)), (6, .int y6), (0, .ref g0), (1, .int x), (2, .int y), (3, .int wd), (4, .int hg), (5, .int x5)]) hx hb dX5_box_153 hl (k := 1) rfl (show nI i + Int32.ofInt 1 = nI (i + 1) from nI_add _ _) (by decide) rfl (fun ls hl => ?_)
                        refine lv_goto (tgt := 95) hx hb dX5_box_156 (by decide) ?_
                        exact ih95 (i + 1) y6 f2 (by omega) hg1 (by omega) _ _ _ hP hS (lv_sub hl [0, 2, 3, 4, 5, 6, 7, 8] rfl)
                      · skip
                        have hj32 := min_32 c126 hj
                        refine lv_aload_n hx hb dX5_box_129 rfl (lv_at hl 3 rfl) ?_
                        refine va_get (D := (dC, dI)) (ci := 5) (v := .ref gC) (C := RX5) (T := TX5) (N := 14) hx hb hts hinX5 hown hK hP 0 rfl rfl 0 (by decide) (hts (.fieldLink RX5 9 "GreyReel" "canvas" "[I") (List.mem_of_getElem? (i := 10) (by decide +kernel))) (fun _ h9 => h9) rfl dX5_box_130 ?_
                        refine lv_iload hx hb dX5_box_133 (lv_at hl 1 rfl) ?_
                        refine lv_bipush (v := 32) hx hb dX5_box_135 (by decide +kernel) ?_
                        refine lv_imul hx hb dX5_box_137 ?_
                        refine lv_topr (show _ = nI (i * 32) from pk_mul i 32) ?_
                        refine lv_iload hx hb dX5_box_138 (lv_at hl 0 rfl) ?_
                        refine lv_iadd hx hb dX5_box_140 ?_
                        refine lv_topr (show _ = nI ((i * 32) + j) from nI_add (i * 32) j) ?_
                        refine lv_iload hx hb dX5_box_141 (lv_at hl 8 rfl) ?_
                        refine wa_iast (D := (dC, dI)) (i := ((i * 32) + j)) (f := f2) hx hb hK hP (hN.D rfl) hS (List.mem_of_getElem? (i := 0) rfl) 1 0 rfl rfl (by omega) (by omega) dX5_box_143 (fun H locs hP hS => ?_)
                        obtain ⟨f_6, ef_6⟩ : ∃ z, z = upd f2 ((i * 32) + j) x5 := ⟨_, rfl⟩
                        rw [← ef_6] at hP
                        have hP : va_P (dC, dI) vwCl [(g0, .inr (5, [.ref gC, .ref gR, .ref c0, .ref w0, .ref v0, .ref gB, .ref p0, .int (nI cd), .int db, .int st, .int bw, .int ki, .int sg, .int ak])), (gC, .inl (cI, 768, .inl f_6))] H := hP
                        obtain ⟨x_7, ex_7⟩ : ∃ y : Int32, y = y6 + 1 := ⟨_, rfl⟩
                        refine lv_iinc (v := x_7) (lv' := [(6, .int x_7), (8, .int (nI j)), (7, .int (nI i)), (0, .ref g0), (1, .int x), (2, .int y), (3, .int wd), (4, .int hg), (5, .int x5)]) hx hb dX5_box_144 hl (k := 2) rfl (by rw [ex_7]; rfl) (by decide) rfl (fun ls hl => ?_)
                        refine lv_iinc (v := nI (j + 1)) (lv' := [(8, .int (nI (j + 1))), (6, .int x_7), (7, .int (nI i)), (0, .ref g0), (1, .int x), (2, .int y), (3, .int wd), (4, .int hg), (5, .int x5)]) hx hb dX5_box_147 hl (k := 1) rfl (show nI j + Int32.ofInt 1 = nI (j + 1) from nI_add _ _) (by decide) rfl (fun ls hl => ?_)
                        refine lv_goto (tgt := 116) hx hb dX5_box_150 (by decide) ?_
                        exact ih116 (j + 1) x_7 f_6 (by omega) (by rw [ef_6]; exact rng_upd hg1 h255) (by omega) _ _ _ hP hS (lv_sub hl [0, 2, 1, 3, 4, 5, 6, 7, 8] rfl)
                  exact L116 (33 + 1) (mxN x) x6 f1 (mxN_le hxr.2) hf (by omega) _ _ _ hP hS (lv_sub hl [0, 1, 2, 3, 4, 5, 6, 7, 8] rfl)
            exact L95 (33 + 1) (mxN y) 0 fc (mxN_le hy.2) hc0 (by omega) _ _ _ hP hS (lv_sub hl [0, 1, 2, 3, 4, 5, 6, 7] rfl)
          · skip
            exact False.elim (isW_no hr_5 (show (0 : Int32).toInt ≤ _ ∧ _ ≤ (255 : Int32).toInt from h255) c72)
        · skip
          exact False.elim (isW_no hr_4 (show (1 : Int32).toInt ≤ _ ∧ _ ≤ (32 : Int32).toInt from hhg) c50)
    · skip
      exact False.elim (isW_no hr_2 (show (-32 : Int32).toInt ≤ _ ∧ _ ≤ (32 : Int32).toInt from hy) c19)
set_option maxHeartbeats 4000000 in
set_option maxRecDepth 100000 in
theorem C_X5_ramp (l : Launch) (dC : Nat → ClassId) (dI : Nat → Nat → Nat) (cI cZ cP : ClassId) (N0 tO : Nat) (g0 gC gR c0 w0 v0 gB p0 cd : Nat) (db st bw ki sg ak : Int32) (fc : Nat → Int32) (x y z : Int32) (hxr : -255 ≤ x.toInt ∧ x.toInt ≤ 255) (hy : -80 ≤ y.toInt ∧ y.toInt ≤ 80) (hz : -80 ≤ z.toInt ∧ z.toInt ≤ 80) (hc0 : rng fc 768) : Met l yX5_ramp wsX5_ramp ({ frames := 1, cells := 0, slots := 0, locals := 22 } : Room) (Gv (dC, dI) cI cZ cP N0 tO [.ref g0, .int x, .int y, .int z] (fun H => va_P (dC, dI) vwCl [(g0, .inr (5, [.ref gC, .ref gR, .ref c0, .ref w0, .ref v0, .ref gB, .ref p0, .int (nI cd), .int db, .int st, .int bw, .int ki, .int sg, .int ak])), (gC, .inl (cI, 768, .inl fc))] H ∧ AD N0 [g0, gC])) (va_Qi (fun (r : Int32) (f9 : (Nat → Int32)) => rng f9 768) (fun (f9 : (Nat → Int32)) (t : State) => va_P (dC, dI) vwCl [(gC, .inl (cI, 768, .inl f9))] t.heap) (inL [gC])) 0 0 (inL [gC]) := by
  refine Met.ofW (cc := cX5_ramp) (maxL := 7) (ret := (some .int)) (by decide) rfl ?_
  intro p e s m args below meth c s₁ B hml hv
  obtain ⟨rfl, hE, hP, hN⟩ := hv
  have hx := B.exec
  have hb := B.bytes
  have hr := B.returns
  have hts := atoms_spec (ws := wsX5_ramp) B.pre
  have hown : s.vm.findClass RX5 = some m.cls := findClass_of_methodNamed B.named
  have hlocks := B.notSynchronized
  have hK := hE.1
  have hNS := hE.2.1
  have hS : va_S (inL [gC]) s.heap s.heap [] := va_S.rf
  have hAN : ∀ q : Nat, (inL [gC]) q → N0 ≤ q := fun q h => hN.in [1] rfl q h
  have hP : va_P (dC, dI) vwCl [(g0, .inr (5, [.ref gC, .ref gR, .ref c0, .ref w0, .ref v0, .ref gB, .ref p0, .int (nI cd), .int db, .int st, .int bw, .int ki, .int sg, .int ak])), (gC, .inl (cI, 768, .inl fc))] s.heap := hP
  have hinX5 : ∀ w ∈ wsX50, w ∈ wsX5_ramp := by decide +kernel
  have hl := lv_entry ([.ref g0, .int x, .int y, .int z]) (n := 7) (Nat.le_of_ble_eq_true rfl)
  rw [lg_entry_eq]
  generalize (lg_sl ([.ref g0, .int x, .int y, .int z]) ++ List.replicate (7 - (lg_sl ([.ref g0, .int x, .int y, .int z])).length) Slot.unset).toArray = ls at hl ⊢
  have hl : lv_has ls 7 [(0, .ref g0), (1, .int x), (2, .int y), (3, .int z)] := hl
  refine lv_iload_n hx hb dX5_ramp_0 rfl (lv_at hl 1 rfl) ?_
  refine lv_sipush (v := (-255)) hx hb dX5_ramp_1 (by decide +kernel) ?_
  refine lv_sipush (v := 255) hx hb dX5_ramp_4 (by decide +kernel) ?_
  refine vp_callSi (va_Run.run (va_runS (As := [.int x, .int (-255), .int 255]) (rest := []) ⟨hx, hb, hml, hown, hts⟩ (C_X5_isWithin l dC dI cI cZ cP N0 tO x (-255) 255 ) (va_cwS 3 hts gX5_ramp_X5_isWithin rfl rfl rfl (by decide +kernel) ⟨Nat.le_of_ble_eq_true rfl, Nat.le_of_ble_eq_true rfl⟩) ⟨Gv.blind, Gv.of (hE.S hS hAN) trivial⟩ rfl rfl hl.1 rfl (lv_room (Nat.le_of_ble_eq_true rfl)) dX5_ramp_7 ⟨Nat.le_of_ble_eq_true rfl, Nat.le_of_ble_eq_true rfl⟩)) (fun r_1 hr_1 => ?_)
  have hr_1 : r_1 = isWithinI x (-255) 255 := hr_1
  refine lv_if_ne (tgt := 23) hx hb dX5_ramp_10 (by decide) (fun c10 => ?_) (fun c10 => ?_)
  · skip
    refine lv_iload_n hx hb dX5_ramp_23 rfl (lv_at hl 2 rfl) ?_
    refine lv_bipush (v := (-80)) hx hb dX5_ramp_24 (by decide +kernel) ?_
    refine lv_bipush (v := 80) hx hb dX5_ramp_26 (by decide +kernel) ?_
    refine vp_callSi (va_Run.run (va_runS (As := [.int y, .int (-80), .int 80]) (rest := []) ⟨hx, hb, hml, hown, hts⟩ (C_X5_isWithin l dC dI cI cZ cP N0 tO y (-80) 80 ) (va_cwS 3 hts gX5_ramp_X5_isWithin rfl rfl rfl (by decide +kernel) ⟨Nat.le_of_ble_eq_true rfl, Nat.le_of_ble_eq_true rfl⟩) ⟨Gv.blind, Gv.of (hE.S hS hAN) trivial⟩ rfl rfl hl.1 rfl (lv_room (Nat.le_of_ble_eq_true rfl)) dX5_ramp_28 ⟨Nat.le_of_ble_eq_true rfl, Nat.le_of_ble_eq_true rfl⟩)) (fun r_2 hr_2 => ?_)
    have hr_2 : r_2 = isWithinI y (-80) 80 := hr_2
    refine lv_if_eq (tgt := 45) hx hb dX5_ramp_31 (by decide) (fun c31 => ?_) (fun c31 => ?_)
    · skip
      exact False.elim (isW_no hr_2 (show (-80 : Int32).toInt ≤ _ ∧ _ ≤ (80 : Int32).toInt from hy) c31)
    · skip
      refine lv_iload_n hx hb dX5_ramp_34 rfl (lv_at hl 3 rfl) ?_
      refine lv_bipush (v := (-80)) hx hb dX5_ramp_35 (by decide +kernel) ?_
      refine lv_bipush (v := 80) hx hb dX5_ramp_37 (by decide +kernel) ?_
      refine vp_callSi (va_Run.run (va_runS (As := [.int z, .int (-80), .int 80]) (rest := []) ⟨hx, hb, hml, hown, hts⟩ (C_X5_isWithin l dC dI cI cZ cP N0 tO z (-80) 80 ) (va_cwS 3 hts gX5_ramp_X5_isWithin rfl rfl rfl (by decide +kernel) ⟨Nat.le_of_ble_eq_true rfl, Nat.le_of_ble_eq_true rfl⟩) ⟨Gv.blind, Gv.of (hE.S hS hAN) trivial⟩ rfl rfl hl.1 rfl (lv_room (Nat.le_of_ble_eq_true rfl)) dX5_ramp_39 ⟨Nat.le_of_ble_eq_true rfl, Nat.le_of_ble_eq_true rfl⟩)) (fun r_3 hr_3 => ?_)
      have hr_3 : r_3 = isWithinI z (-80) 80 := hr_3
      refine lv_if_ne (tgt := 55) hx hb dX5_ramp_42 (by decide) (fun c42 => ?_) (fun c42 => ?_)
      · skip
        refine lv_iconst (v := 0) hx hb dX5_ramp_55 (by decide) ?_
        refine lv_istore (lv' := [(4, .int 0), (0, .ref g0), (1, .int x), (2, .int y), (3, .int z)]) hx hb dX5_ramp_56 hl (by decide) rfl (fun ls hl => ?_)
        refine lv_iconst (v := 0) hx hb dX5_ramp_58 (by decide) ?_
        refine lv_istore (lv' := [(5, .int 0), (4, .int 0), (0, .ref g0), (1, .int x), (2, .int y), (3, .int z)]) hx hb dX5_ramp_59 hl (by decide) rfl (fun ls hl => ?_)
        have L61 : ∀ (n61 : Nat) (i : Nat) (x4 : Int32) (f1 : Nat → Int32), (i ≤ 768) → (rng f1 768) → 768 - i < n61 → ∀ (H : Heap) (locs : List Loc) (ls : Array Slot), va_P (dC, dI) vwCl [(g0, .inr (5, [.ref gC, .ref gR, .ref c0, .ref w0, .ref v0, .ref gB, .ref p0, .int (nI cd), .int db, .int st, .int bw, .int ki, .int sg, .int ak])), (gC, .inl (cI, 768, .inl f1))] H → va_S (inL [gC]) s.heap H locs → lv_has ls 7 [(5, .int (nI i)), (4, .int x4), (0, .ref g0), (1, .int x), (2, .int y), (3, .int z)] → W p l e (headSpec wsX5_ramp ({ frames := 1, cells := 0, slots := 0, locals := 22 } : Room)).room s m ([.ref g0, .int x, .int y, .int z] : List Value).toArray below meth c H locs 0 0 (MQ below (va_Qi (fun (r : Int32) (f9 : (Nat → Int32)) => rng f9 768) (fun (f9 : (Nat → Int32)) (t : State) => va_P (dC, dI) vwCl [(gC, .inl (cI, 768, .inl f9))] t.heap) (inL [gC])) ([.ref g0, .int x, .int y, .int z] : List Value).toArray s 0 0 (inL [gC])) (F0 m 61 ls []) := by
          intro n61
          induction n61 with
          | zero => intro i x4 f1 hi hf hz; exact absurd hz (Nat.not_lt_zero _)
          | succ n61 ih61 =>
            intro i x4 f1 hi hf hfu H locs ls hP hS hl
            refine lv_iload hx hb dX5_ramp_61 (lv_at hl 0 rfl) ?_
            refine lv_sipush (v := 768) hx hb dX5_ramp_63 (by decide +kernel) ?_
            refine lv_icmp_ge (tgt := 128) hx hb dX5_ramp_66 (by decide) (fun c66 => ?_) (fun c66 => ?_)
            · skip
              have c66 : 768 ≤ i := (nI_leI (a := 768) (b := i) (by omega) (by omega)).mp c66
              obtain rfl : i = 768 := by omega
              refine lv_iload hx hb dX5_ramp_128 (lv_at hl 1 rfl) ?_
              exact W.iret (v := x4) hx hb hr (fun t ht hW => ⟨⟨x4, f1, rfl, hf, by show va_P _ _ _ t.heap; rw [ht]; exact hP.sub [1] rfl⟩, hS.F ht⟩) hS.2.2 dX5_ramp_130
            · skip
              have c66 : ¬ 768 ≤ i := fun z => c66 ((nI_leI (a := 768) (b := i) (by omega) (by omega)).mpr z)
              refine lv_iload_n hx hb dX5_ramp_69 rfl (lv_at hl 4 rfl) ?_
              refine lv_iload hx hb dX5_ramp_70 (lv_at hl 0 rfl) ?_
              refine lv_bipush (v := 32) hx hb dX5_ramp_72 (by decide +kernel) ?_
              refine lv_irem hx hb dX5_ramp_74 (by decide) ?_
              refine lv_topr (show _ = nI (i % 32) from pk_rem (a := i) (d := 32) (by omega) (by omega) (by omega)) ?_
              refine lv_imul hx hb dX5_ramp_75 ?_
              refine lv_iload_n hx hb dX5_ramp_76 rfl (lv_at hl 5 rfl) ?_
              refine lv_iload hx hb dX5_ramp_77 (lv_at hl 0 rfl) ?_
              refine lv_bipush (v := 32) hx hb dX5_ramp_79 (by decide +kernel) ?_
              refine lv_idiv hx hb dX5_ramp_81 (by decide) ?_
              refine lv_topr (show _ = nI (i / 32) from pk_div (a := i) (d := 32) (by omega) (by omega) (by omega)) ?_
              refine lv_imul hx hb dX5_ramp_82 ?_
              refine lv_iadd hx hb dX5_ramp_83 ?_
              refine lv_topi (fun x_4 ex_4 => ?_)
              refine lv_istore (lv' := [(6, .int x_4), (5, .int (nI i)), (4, .int x4), (0, .ref g0), (1, .int x), (2, .int y), (3, .int z)]) hx hb dX5_ramp_84 hl (by decide) rfl (fun ls hl => ?_)
              refine lv_aload_n hx hb dX5_ramp_86 rfl (lv_at hl 3 rfl) ?_
              refine va_get (D := (dC, dI)) (ci := 5) (v := .ref gC) (C := RX5) (T := TX5) (N := 14) hx hb hts hinX5 hown hK hP 0 rfl rfl 0 (by decide) (hts (.fieldLink RX5 9 "GreyReel" "canvas" "[I") (List.mem_of_getElem? (i := 3) (by decide +kernel))) (fun _ h9 => h9) rfl dX5_ramp_87 ?_
              refine lv_iload hx hb dX5_ramp_90 (lv_at hl 1 rfl) ?_
              refine lv_aload_n hx hb dX5_ramp_92 rfl (lv_at hl 3 rfl) ?_
              refine va_get (D := (dC, dI)) (ci := 5) (v := .ref gC) (C := RX5) (T := TX5) (N := 14) hx hb hts hinX5 hown hK hP 0 rfl rfl 0 (by decide) (hts (.fieldLink RX5 9 "GreyReel" "canvas" "[I") (List.mem_of_getElem? (i := 3) (by decide +kernel))) (fun _ h9 => h9) rfl dX5_ramp_93 ?_
              refine lv_iload hx hb dX5_ramp_96 (lv_at hl 1 rfl) ?_
              refine wa_iald (D := (dC, dI)) (i := i) (f := f1) hx hb hK hP 1 0 rfl rfl (by omega) (by omega) dX5_ramp_98 ?_
              refine lv_iload_n hx hb dX5_ramp_99 rfl (lv_at hl 4 rfl) ?_
              refine lv_iadd hx hb dX5_ramp_100 ?_
              refine lv_iload hx hb dX5_ramp_101 (lv_at hl 0 rfl) ?_
              refine lv_iconst (v := 3) hx hb dX5_ramp_103 (by decide) ?_
              refine lv_ishr hx hb dX5_ramp_104 ?_
              refine lv_iadd hx hb dX5_ramp_105 ?_
              refine vp_callSi (va_Run.run (va_runS (As := [.int (((f1 i) + x) + (x_4 >>> (3 &&& 31)))]) (rest := [.int (nI i), .ref gC]) ⟨hx, hb, hml, hown, hts⟩ (C_X5_clip l dC dI cI cZ cP N0 tO (((f1 i) + x) + (x_4 >>> (3 &&& 31))) ) (va_cwS 1 hts gX5_ramp_X5_clip rfl rfl rfl (by decide +kernel) ⟨Nat.le_of_ble_eq_true rfl, Nat.le_of_ble_eq_true rfl⟩) ⟨Gv.blind, Gv.of (hE.S hS hAN) trivial⟩ rfl rfl hl.1 rfl (lv_room (Nat.le_of_ble_eq_true rfl)) dX5_ramp_106 ⟨Nat.le_of_ble_eq_true rfl, Nat.le_of_ble_eq_true rfl⟩)) (fun r_5 hr_5 => ?_)
              have hr_5 : r_5 = clipI (((f1 i) + x) + (x_4 >>> (3 &&& 31))) := hr_5
              refine wa_iast (D := (dC, dI)) (i := i) (f := f1) hx hb hK hP (hN.D rfl) hS (List.mem_of_getElem? (i := 0) rfl) 1 0 rfl rfl (by omega) (by omega) dX5_ramp_109 (fun H locs hP hS => ?_)
              obtain ⟨f_6, ef_6⟩ : ∃ z, z = upd f1 i r_5 := ⟨_, rfl⟩
              rw [← ef_6] at hP
              have hP : va_P (dC, dI) vwCl [(g0, .inr (5, [.ref gC, .ref gR, .ref c0, .ref w0, .ref v0, .ref gB, .ref p0, .int (nI cd), .int db, .int st, .int bw, .int ki, .int sg, .int ak])), (gC, .inl (cI, 768, .inl f_6))] H := hP
              refine lv_iload hx hb dX5_ramp_110 (lv_at hl 2 rfl) ?_
              refine lv_aload_n hx hb dX5_ramp_112 rfl (lv_at hl 3 rfl) ?_
              refine va_get (D := (dC, dI)) (ci := 5) (v := .ref gC) (C := RX5) (T := TX5) (N := 14) hx hb hts hinX5 hown hK hP 0 rfl rfl 0 (by decide) (hts (.fieldLink RX5 9 "GreyReel" "canvas" "[I") (List.mem_of_getElem? (i := 3) (by decide +kernel))) (fun _ h9 => h9) rfl dX5_ramp_113 ?_
              refine lv_iload hx hb dX5_ramp_116 (lv_at hl 1 rfl) ?_
              refine wa_iald (D := (dC, dI)) (i := i) (f := f_6) hx hb hK hP 1 0 rfl rfl (by omega) (by omega) dX5_ramp_118 ?_
              refine lv_iadd hx hb dX5_ramp_119 ?_
              refine lv_topi (fun x_7 ex_7 => ?_)
              refine lv_istore (lv' := [(4, .int x_7), (6, .int x_4), (5, .int (nI i)), (0, .ref g0), (1, .int x), (2, .int y), (3, .int z)]) hx hb dX5_ramp_120 hl (by decide) rfl (fun ls hl => ?_)
              refine lv_iinc (v := nI (i + 1)) (lv' := [(5, .int (nI (i + 1))), (4, .int x_7), (6, .int x_4), (0, .ref g0), (1, .int x), (2, .int y), (3, .int z)]) hx hb dX5_ramp_122 hl (k := 2) rfl (show nI i + Int32.ofInt 1 = nI (i + 1) from nI_add _ _) (by decide) rfl (fun ls hl => ?_)
              refine lv_goto (tgt := 61) hx hb dX5_ramp_125 (by decide) ?_
              exact ih61 (i + 1) x_7 f_6 (by omega) (by rw [ef_6, hr_5]; exact rng_upd hf (clip_rng _)) (by omega) _ _ _ hP hS (lv_sub hl [0, 1, 3, 4, 5, 6] rfl)
        exact L61 (768 + 1) 0 0 fc (by omega) hc0 (Nat.lt_succ_self _) _ _ _ hP hS (lv_sub hl [0, 1, 2, 3, 4, 5] rfl)
      · skip
        exact False.elim (isW_no hr_3 (show (-80 : Int32).toInt ≤ _ ∧ _ ≤ (80 : Int32).toInt from hz) c42)
  · skip
    exact False.elim (isW_no hr_1 (show (-255 : Int32).toInt ≤ _ ∧ _ ≤ (255 : Int32).toInt from hxr) c10)
set_option maxHeartbeats 4000000 in
set_option maxRecDepth 100000 in
theorem C_X5_noise (l : Launch) (dC : Nat → ClassId) (dI : Nat → Nat → Nat) (cI cZ cP : ClassId) (N0 tO : Nat) (g0 gC gR c0 w0 v0 gB p0 cd : Nat) (db st bw ki sg ak : Int32) (fc : Nat → Int32) (x : Int32) (k : Nat) (hxr : 0 ≤ x.toInt ∧ x.toInt ≤ 65535) (hk60 : k ≤ 60) (hc0 : rng fc 768) : Met l yX5_noise wsX5_noise ({ frames := 1, cells := 0, slots := 0, locals := 22 } : Room) (Gv (dC, dI) cI cZ cP N0 tO [.ref g0, .int x, .int (nI k)] (fun H => va_P (dC, dI) vwCl [(g0, .inr (5, [.ref gC, .ref gR, .ref c0, .ref w0, .ref v0, .ref gB, .ref p0, .int (nI cd), .int db, .int st, .int bw, .int ki, .int sg, .int ak])), (gC, .inl (cI, 768, .inl fc))] H ∧ AD N0 [g0, gC])) (va_Qi (fun (r : Int32) (f9 : (Nat → Int32)) => rng f9 768) (fun (f9 : (Nat → Int32)) (t : State) => va_P (dC, dI) vwCl [(gC, .inl (cI, 768, .inl f9))] t.heap) (inL [gC])) 0 0 (inL [gC]) := by
  refine Met.ofW (cc := cX5_noise) (maxL := 5) (ret := (some .int)) (by decide) rfl ?_
  intro p e s m args below meth c s₁ B hml hv
  obtain ⟨rfl, hE, hP, hN⟩ := hv
  have hx := B.exec
  have hb := B.bytes
  have hr := B.returns
  have hts := atoms_spec (ws := wsX5_noise) B.pre
  have hown : s.vm.findClass RX5 = some m.cls := findClass_of_methodNamed B.named
  have hlocks := B.notSynchronized
  have hK := hE.1
  have hNS := hE.2.1
  have hS : va_S (inL [gC]) s.heap s.heap [] := va_S.rf
  have hAN : ∀ q : Nat, (inL [gC]) q → N0 ≤ q := fun q h => hN.in [1] rfl q h
  have hP : va_P (dC, dI) vwCl [(g0, .inr (5, [.ref gC, .ref gR, .ref c0, .ref w0, .ref v0, .ref gB, .ref p0, .int (nI cd), .int db, .int st, .int bw, .int ki, .int sg, .int ak])), (gC, .inl (cI, 768, .inl fc))] s.heap := hP
  have hinX5 : ∀ w ∈ wsX50, w ∈ wsX5_noise := by decide +kernel
  have hl := lv_entry ([.ref g0, .int x, .int (nI k)]) (n := 5) (Nat.le_of_ble_eq_true rfl)
  rw [lg_entry_eq]
  generalize (lg_sl ([.ref g0, .int x, .int (nI k)]) ++ List.replicate (5 - (lg_sl ([.ref g0, .int x, .int (nI k)])).length) Slot.unset).toArray = ls at hl ⊢
  have hl : lv_has ls 5 [(0, .ref g0), (1, .int x), (2, .int (nI k))] := hl
  refine lv_iload_n hx hb dX5_noise_0 rfl (lv_at hl 1 rfl) ?_
  refine lv_iconst (v := 0) hx hb dX5_noise_1 (by decide) ?_
  refine lv_ldc (v := 65535) hx hb hown (hts (.constant RX5 103 (65535)) (List.mem_of_getElem? (i := 3) (by decide +kernel))) dX5_noise_2 ?_
  refine vp_callSi (va_Run.run (va_runS (As := [.int x, .int 0, .int 65535]) (rest := []) ⟨hx, hb, hml, hown, hts⟩ (C_X5_isWithin l dC dI cI cZ cP N0 tO x 0 65535 ) (va_cwS 3 hts gX5_noise_X5_isWithin rfl rfl rfl (by decide +kernel) ⟨Nat.le_of_ble_eq_true rfl, Nat.le_of_ble_eq_true rfl⟩) ⟨Gv.blind, Gv.of (hE.S hS hAN) trivial⟩ rfl rfl hl.1 rfl (lv_room (Nat.le_of_ble_eq_true rfl)) dX5_noise_4 ⟨Nat.le_of_ble_eq_true rfl, Nat.le_of_ble_eq_true rfl⟩)) (fun r_1 hr_1 => ?_)
  have hr_1 : r_1 = isWithinI x 0 65535 := hr_1
  refine lv_if_ne (tgt := 20) hx hb dX5_noise_7 (by decide) (fun c7 => ?_) (fun c7 => ?_)
  · skip
    refine lv_iload_n hx hb dX5_noise_20 rfl (lv_at hl 2 rfl) ?_
    refine lv_iconst (v := 0) hx hb dX5_noise_21 (by decide) ?_
    refine lv_bipush (v := 60) hx hb dX5_noise_22 (by decide +kernel) ?_
    refine vp_callSi (va_Run.run (va_runS (As := [.int (nI k), .int 0, .int 60]) (rest := []) ⟨hx, hb, hml, hown, hts⟩ (C_X5_isWithin l dC dI cI cZ cP N0 tO (nI k) 0 60 ) (va_cwS 3 hts gX5_noise_X5_isWithin rfl rfl rfl (by decide +kernel) ⟨Nat.le_of_ble_eq_true rfl, Nat.le_of_ble_eq_true rfl⟩) ⟨Gv.blind, Gv.of (hE.S hS hAN) trivial⟩ rfl rfl hl.1 rfl (lv_room (Nat.le_of_ble_eq_true rfl)) dX5_noise_24 ⟨Nat.le_of_ble_eq_true rfl, Nat.le_of_ble_eq_true rfl⟩)) (fun r_2 hr_2 => ?_)
    have hr_2 : r_2 = isWithinI (nI k) 0 60 := hr_2
    refine lv_if_ne (tgt := 40) hx hb dX5_noise_27 (by decide) (fun c27 => ?_) (fun c27 => ?_)
    · skip
      refine lv_iload_n hx hb dX5_noise_40 rfl (lv_at hl 1 rfl) ?_
      refine lv_istore_n (lv' := [(3, .int x), (0, .ref g0), (1, .int x), (2, .int (nI k))]) hx hb dX5_noise_41 rfl hl (by decide) rfl (fun ls hl => ?_)
      refine lv_iconst (v := 0) hx hb dX5_noise_42 (by decide) ?_
      refine lv_istore (lv' := [(4, .int 0), (3, .int x), (0, .ref g0), (1, .int x), (2, .int (nI k))]) hx hb dX5_noise_43 hl (by decide) rfl (fun ls hl => ?_)
      have L45 : ∀ (n45 : Nat) (i : Nat) (x3 : Int32) (f1 : Nat → Int32), (i ≤ 768) → (rng f1 768) → 768 - i < n45 → ∀ (H : Heap) (locs : List Loc) (ls : Array Slot), va_P (dC, dI) vwCl [(g0, .inr (5, [.ref gC, .ref gR, .ref c0, .ref w0, .ref v0, .ref gB, .ref p0, .int (nI cd), .int db, .int st, .int bw, .int ki, .int sg, .int ak])), (gC, .inl (cI, 768, .inl f1))] H → va_S (inL [gC]) s.heap H locs → lv_has ls 5 [(4, .int (nI i)), (3, .int x3), (0, .ref g0), (1, .int x), (2, .int (nI k))] → W p l e (headSpec wsX5_noise ({ frames := 1, cells := 0, slots := 0, locals := 22 } : Room)).room s m ([.ref g0, .int x, .int (nI k)] : List Value).toArray below meth c H locs 0 0 (MQ below (va_Qi (fun (r : Int32) (f9 : (Nat → Int32)) => rng f9 768) (fun (f9 : (Nat → Int32)) (t : State) => va_P (dC, dI) vwCl [(gC, .inl (cI, 768, .inl f9))] t.heap) (inL [gC])) ([.ref g0, .int x, .int (nI k)] : List Value).toArray s 0 0 (inL [gC])) (F0 m 45 ls []) := by
        intro n45
        induction n45 with
        | zero => intro i x3 f1 hi hf hz; exact absurd hz (Nat.not_lt_zero _)
        | succ n45 ih45 =>
          intro i x3 f1 hi hf hfu H locs ls hP hS hl
          refine lv_iload hx hb dX5_noise_45 (lv_at hl 0 rfl) ?_
          refine lv_sipush (v := 768) hx hb dX5_noise_47 (by decide +kernel) ?_
          refine lv_icmp_ge (tgt := 101) hx hb dX5_noise_50 (by decide) (fun c50 => ?_) (fun c50 => ?_)
          · skip
            have c50 : 768 ≤ i := (nI_leI (a := 768) (b := i) (by omega) (by omega)).mp c50
            obtain rfl : i = 768 := by omega
            refine lv_iload_n hx hb dX5_noise_101 rfl (lv_at hl 1 rfl) ?_
            exact W.iret (v := x3) hx hb hr (fun t ht hW => ⟨⟨x3, f1, rfl, hf, by show va_P _ _ _ t.heap; rw [ht]; exact hP.sub [1] rfl⟩, hS.F ht⟩) hS.2.2 dX5_noise_102
          · skip
            have c50 : ¬ 768 ≤ i := fun z => c50 ((nI_leI (a := 768) (b := i) (by omega) (by omega)).mpr z)
            refine lv_iload_n hx hb dX5_noise_53 rfl (lv_at hl 1 rfl) ?_
            refine lv_sipush (v := 1103) hx hb dX5_noise_54 (by decide +kernel) ?_
            refine lv_imul hx hb dX5_noise_57 ?_
            refine lv_sipush (v := 12345) hx hb dX5_noise_58 (by decide +kernel) ?_
            refine lv_iadd hx hb dX5_noise_61 ?_
            refine lv_ldc (v := 65536) hx hb hown (hts (.constant RX5 108 (65536)) (List.mem_of_getElem? (i := 4) (by decide +kernel))) dX5_noise_62 ?_
            refine lv_irem hx hb dX5_noise_64 (by decide) ?_
            refine lv_topi (fun x_3 ex_3 => ?_)
            refine lv_istore_n (lv' := [(3, .int x_3), (4, .int (nI i)), (0, .ref g0), (1, .int x), (2, .int (nI k))]) hx hb dX5_noise_65 rfl hl (by decide) rfl (fun ls hl => ?_)
            refine lv_aload_n hx hb dX5_noise_66 rfl (lv_at hl 2 rfl) ?_
            refine va_get (D := (dC, dI)) (ci := 5) (v := .ref gC) (C := RX5) (T := TX5) (N := 14) hx hb hts hinX5 hown hK hP 0 rfl rfl 0 (by decide) (hts (.fieldLink RX5 9 "GreyReel" "canvas" "[I") (List.mem_of_getElem? (i := 5) (by decide +kernel))) (fun _ h9 => h9) rfl dX5_noise_67 ?_
            refine lv_iload hx hb dX5_noise_70 (lv_at hl 1 rfl) ?_
            refine lv_aload_n hx hb dX5_noise_72 rfl (lv_at hl 2 rfl) ?_
            refine va_get (D := (dC, dI)) (ci := 5) (v := .ref gC) (C := RX5) (T := TX5) (N := 14) hx hb hts hinX5 hown hK hP 0 rfl rfl 0 (by decide) (hts (.fieldLink RX5 9 "GreyReel" "canvas" "[I") (List.mem_of_getElem? (i := 5) (by decide +kernel))) (fun _ h9 => h9) rfl dX5_noise_73 ?_
            refine lv_iload hx hb dX5_noise_76 (lv_at hl 1 rfl) ?_
            refine wa_iald (D := (dC, dI)) (i := i) (f := f1) hx hb hK hP 1 0 rfl rfl (by omega) (by omega) dX5_noise_78 ?_
            refine lv_iload_n hx hb dX5_noise_79 rfl (lv_at hl 0 rfl) ?_
            refine lv_iconst (v := 4) hx hb dX5_noise_80 (by decide) ?_
            refine lv_ishr hx hb dX5_noise_81 ?_
            refine lv_iconst (v := 2) hx hb dX5_noise_82 (by decide) ?_
            refine lv_iload_n hx hb dX5_noise_83 rfl (lv_at hl 4 rfl) ?_
            refine lv_imul hx hb dX5_noise_84 ?_
            refine lv_topr (show _ = nI (2 * k) from pk_mul 2 k) ?_
            refine lv_iconst (v := 1) hx hb dX5_noise_85 (by decide) ?_
            refine lv_iadd hx hb dX5_noise_86 ?_
            refine lv_topr (show _ = nI ((2 * k) + 1) from nI_add (2 * k) 1) ?_
            refine lv_irem hx hb dX5_noise_87 (gn_ne0 (by omega) (by omega)) ?_
            refine lv_iadd hx hb dX5_noise_88 ?_
            refine lv_iload_n hx hb dX5_noise_89 rfl (lv_at hl 4 rfl) ?_
            refine lv_isub hx hb dX5_noise_90 ?_
            refine vp_callSi (va_Run.run (va_runS (As := [.int (((f1 i) + ((x_3 >>> (4 &&& 31)) - (x_3 >>> (4 &&& 31)) / (nI ((2 * k) + 1)) * (nI ((2 * k) + 1)))) - (nI k))]) (rest := [.int (nI i), .ref gC]) ⟨hx, hb, hml, hown, hts⟩ (C_X5_clip l dC dI cI cZ cP N0 tO (((f1 i) + ((x_3 >>> (4 &&& 31)) - (x_3 >>> (4 &&& 31)) / (nI ((2 * k) + 1)) * (nI ((2 * k) + 1)))) - (nI k)) ) (va_cwS 1 hts gX5_noise_X5_clip rfl rfl rfl (by decide +kernel) ⟨Nat.le_of_ble_eq_true rfl, Nat.le_of_ble_eq_true rfl⟩) ⟨Gv.blind, Gv.of (hE.S hS hAN) trivial⟩ rfl rfl hl.1 rfl (lv_room (Nat.le_of_ble_eq_true rfl)) dX5_noise_91 ⟨Nat.le_of_ble_eq_true rfl, Nat.le_of_ble_eq_true rfl⟩)) (fun r_4 hr_4 => ?_)
            have hr_4 : r_4 = clipI (((f1 i) + ((x_3 >>> (4 &&& 31)) - (x_3 >>> (4 &&& 31)) / (nI ((2 * k) + 1)) * (nI ((2 * k) + 1)))) - (nI k)) := hr_4
            refine wa_iast (D := (dC, dI)) (i := i) (f := f1) hx hb hK hP (hN.D rfl) hS (List.mem_of_getElem? (i := 0) rfl) 1 0 rfl rfl (by omega) (by omega) dX5_noise_94 (fun H locs hP hS => ?_)
            obtain ⟨f_5, ef_5⟩ : ∃ z, z = upd f1 i r_4 := ⟨_, rfl⟩
            rw [← ef_5] at hP
            have hP : va_P (dC, dI) vwCl [(g0, .inr (5, [.ref gC, .ref gR, .ref c0, .ref w0, .ref v0, .ref gB, .ref p0, .int (nI cd), .int db, .int st, .int bw, .int ki, .int sg, .int ak])), (gC, .inl (cI, 768, .inl f_5))] H := hP
            refine lv_iinc (v := nI (i + 1)) (lv' := [(4, .int (nI (i + 1))), (3, .int x_3), (0, .ref g0), (1, .int x), (2, .int (nI k))]) hx hb dX5_noise_95 hl (k := 1) rfl (show nI i + Int32.ofInt 1 = nI (i + 1) from nI_add _ _) (by decide) rfl (fun ls hl => ?_)
            refine lv_goto (tgt := 45) hx hb dX5_noise_98 (by decide) ?_
            exact ih45 (i + 1) x_3 f_5 (by omega) (by rw [ef_5, hr_4]; exact rng_upd hf (clip_rng _)) (by omega) _ _ _ hP hS (lv_sub hl [0, 1, 2, 3, 4] rfl)
      exact L45 (768 + 1) 0 x fc (by omega) hc0 (Nat.lt_succ_self _) _ _ _ hP hS (lv_sub hl [0, 1, 2, 3, 4] rfl)
    · skip
      exact False.elim (isW_no hr_2 (show (0 : Int32).toInt ≤ (nI k).toInt ∧ (nI k).toInt ≤ (60 : Int32).toInt from by rw [nI_toInt (by omega), show (0 : Int32).toInt = 0 from by decide, show (60 : Int32).toInt = 60 from by decide]; omega) c27)
  · skip
    exact False.elim (isW_no hr_1 (show (0 : Int32).toInt ≤ _ ∧ _ ≤ (65535 : Int32).toInt from hxr) c7)
set_option maxHeartbeats 4000000 in
set_option maxRecDepth 100000 in
theorem C_X5_shift (l : Launch) (dC : Nat → ClassId) (dI : Nat → Nat → Nat) (cI cZ cP : ClassId) (N0 tO : Nat) (g0 gC gR c0 w0 v0 gB p0 cd : Nat) (db st bw ki sg ak : Int32) (fc : Nat → Int32) (fb : Nat → Int32) (x y : Int32) (hxr : -16 ≤ x.toInt ∧ x.toInt ≤ 16) (hy : -16 ≤ y.toInt ∧ y.toInt ≤ 16) (hc0 : rng fc 768) : Met l yX5_shift wsX5_shift ({ frames := 2, cells := 0, slots := 0, locals := 53 } : Room) (Gv (dC, dI) cI cZ cP N0 tO [.ref g0, .int x, .int y] (fun H => va_P (dC, dI) vwCl [(g0, .inr (5, [.ref gC, .ref gR, .ref c0, .ref w0, .ref v0, .ref gB, .ref p0, .int (nI cd), .int db, .int st, .int bw, .int ki, .int sg, .int ak])), (gC, .inl (cI, 768, .inl fc)), (gB, .inl (cI, 768, .inl fb))] H ∧ AD N0 [g0, gC, gB])) (va_Qi (fun (r : Int32) (u : (Nat → Int32) × (Nat → Int32)) => match u with | (f9, f8) => rng f9 768) (fun (u : (Nat → Int32) × (Nat → Int32)) (t : State) => match u with | (f9, f8) => va_P (dC, dI) vwCl [(g0, .inr (5, [.ref gC, .ref gR, .ref c0, .ref w0, .ref v0, .ref gB, .ref p0, .int (nI cd), .int db, .int st, .int bw, .int ki, .int sg, .int ak])), (gC, .inl (cI, 768, .inl f9)), (gB, .inl (cI, 768, .inl f8))] t.heap) (inL [g0, gC, gB])) 0 0 (inL [g0, gC, gB]) := by
  refine Met.ofW (cc := cX5_shift) (maxL := 7) (ret := (some .int)) (by decide) rfl ?_
  intro p e s m args below meth c s₁ B hml hv
  obtain ⟨rfl, hE, hP, hN⟩ := hv
  have hx := B.exec
  have hb := B.bytes
  have hr := B.returns
  have hts := atoms_spec (ws := wsX5_shift) B.pre
  have hown : s.vm.findClass RX5 = some m.cls := findClass_of_methodNamed B.named
  have hlocks := B.notSynchronized
  have hK := hE.1
  have hNS := hE.2.1
  have hS : va_S (inL [g0, gC, gB]) s.heap s.heap [] := va_S.rf
  have hAN : ∀ q : Nat, (inL [g0, gC, gB]) q → N0 ≤ q := fun q h => hN.in [0, 1, 2] rfl q h
  have hP : va_P (dC, dI) vwCl [(g0, .inr (5, [.ref gC, .ref gR, .ref c0, .ref w0, .ref v0, .ref gB, .ref p0, .int (nI cd), .int db, .int st, .int bw, .int ki, .int sg, .int ak])), (gC, .inl (cI, 768, .inl fc)), (gB, .inl (cI, 768, .inl fb))] s.heap := hP
  have hinX5 : ∀ w ∈ wsX50, w ∈ wsX5_shift := by decide +kernel
  have hl := lv_entry ([.ref g0, .int x, .int y]) (n := 7) (Nat.le_of_ble_eq_true rfl)
  rw [lg_entry_eq]
  generalize (lg_sl ([.ref g0, .int x, .int y]) ++ List.replicate (7 - (lg_sl ([.ref g0, .int x, .int y])).length) Slot.unset).toArray = ls at hl ⊢
  have hl : lv_has ls 7 [(0, .ref g0), (1, .int x), (2, .int y)] := hl
  refine lv_iload_n hx hb dX5_shift_0 rfl (lv_at hl 1 rfl) ?_
  refine lv_bipush (v := (-16)) hx hb dX5_shift_1 (by decide +kernel) ?_
  refine lv_bipush (v := 16) hx hb dX5_shift_3 (by decide +kernel) ?_
  refine vp_callSi (va_Run.run (va_runS (As := [.int x, .int (-16), .int 16]) (rest := []) ⟨hx, hb, hml, hown, hts⟩ (C_X5_isWithin l dC dI cI cZ cP N0 tO x (-16) 16 ) (va_cwS 3 hts gX5_shift_X5_isWithin rfl rfl rfl (by decide +kernel) ⟨Nat.le_of_ble_eq_true rfl, Nat.le_of_ble_eq_true rfl⟩) ⟨Gv.blind, Gv.of (hE.S hS hAN) trivial⟩ rfl rfl hl.1 rfl (lv_room (Nat.le_of_ble_eq_true rfl)) dX5_shift_5 ⟨Nat.le_of_ble_eq_true rfl, Nat.le_of_ble_eq_true rfl⟩)) (fun r_1 hr_1 => ?_)
  have hr_1 : r_1 = isWithinI x (-16) 16 := hr_1
  refine lv_if_eq (tgt := 22) hx hb dX5_shift_8 (by decide) (fun c8 => ?_) (fun c8 => ?_)
  · skip
    exact False.elim (isW_no hr_1 (show (-16 : Int32).toInt ≤ _ ∧ _ ≤ (16 : Int32).toInt from hxr) c8)
  · skip
    refine lv_iload_n hx hb dX5_shift_11 rfl (lv_at hl 2 rfl) ?_
    refine lv_bipush (v := (-16)) hx hb dX5_shift_12 (by decide +kernel) ?_
    refine lv_bipush (v := 16) hx hb dX5_shift_14 (by decide +kernel) ?_
    refine vp_callSi (va_Run.run (va_runS (As := [.int y, .int (-16), .int 16]) (rest := []) ⟨hx, hb, hml, hown, hts⟩ (C_X5_isWithin l dC dI cI cZ cP N0 tO y (-16) 16 ) (va_cwS 3 hts gX5_shift_X5_isWithin rfl rfl rfl (by decide +kernel) ⟨Nat.le_of_ble_eq_true rfl, Nat.le_of_ble_eq_true rfl⟩) ⟨Gv.blind, Gv.of (hE.S hS hAN) trivial⟩ rfl rfl hl.1 rfl (lv_room (Nat.le_of_ble_eq_true rfl)) dX5_shift_16 ⟨Nat.le_of_ble_eq_true rfl, Nat.le_of_ble_eq_true rfl⟩)) (fun r_2 hr_2 => ?_)
    have hr_2 : r_2 = isWithinI y (-16) 16 := hr_2
    refine lv_if_ne (tgt := 32) hx hb dX5_shift_19 (by decide) (fun c19 => ?_) (fun c19 => ?_)
    · skip
      refine lv_aload_n hx hb dX5_shift_32 rfl (lv_at hl 0 rfl) ?_
      refine va_get (D := (dC, dI)) (ci := 5) (v := .ref gC) (C := RX5) (T := TX5) (N := 14) hx hb hts hinX5 hown hK hP 0 rfl rfl 0 (by decide) (hts (.fieldLink RX5 9 "GreyReel" "canvas" "[I") (List.mem_of_getElem? (i := 3) (by decide +kernel))) (fun _ h9 => h9) rfl dX5_shift_33 ?_
      refine lv_iconst (v := 0) hx hb dX5_shift_36 (by decide) ?_
      refine lv_aload_n hx hb dX5_shift_37 rfl (lv_at hl 0 rfl) ?_
      refine va_get (D := (dC, dI)) (ci := 5) (v := .ref gB) (C := RX5) (T := TX5) (N := 14) hx hb hts hinX5 hown hK hP 0 rfl rfl 5 (by decide) (hts (.fieldLink RX5 40 "GreyReel" "canvasBefore" "[I") (List.mem_of_getElem? (i := 4) (by decide +kernel))) (fun _ h9 => h9) rfl dX5_shift_38 ?_
      refine lv_iconst (v := 0) hx hb dX5_shift_41 (by decide) ?_
      refine lv_sipush (v := 768) hx hb dX5_shift_42 (by decide +kernel) ?_
      refine va_copyi hx hb (hml.trans hl.1.symm) hown (hts (.methodLink RX5 111 arraycopyName) (List.mem_of_getElem? (i := 5) (by decide +kernel))) (hts (.native arraycopyName) (List.mem_of_getElem? (i := 6) (by decide +kernel))) (hts (.static arraycopyName) (List.mem_of_getElem? (i := 7) (by decide +kernel))) (hts (.initialized "java/lang/System") (List.mem_of_getElem? (i := 8) (by decide +kernel))) hK hP (hN.DA rfl (fun _ h => h)) hS 1 2 0 0 rfl rfl rfl rfl rfl (by decide) (by decide) (by decide) (by decide) (by decide) (fun _ _ => rfl) (Nat.le_of_ble_eq_true rfl) (Nat.le_of_ble_eq_true rfl) dX5_shift_45 (fun H locs hP _ hS => ?_)
      have hP := hP.cong 2 fc rfl (fun k hk => cpy_768 _ _ hk)
      have hP : va_P (dC, dI) vwCl [(g0, .inr (5, [.ref gC, .ref gR, .ref c0, .ref w0, .ref v0, .ref gB, .ref p0, .int (nI cd), .int db, .int st, .int bw, .int ki, .int sg, .int ak])), (gC, .inl (cI, 768, .inl fc)), (gB, .inl (cI, 768, .inl fc))] H := hP
      refine lv_iconst (v := 0) hx hb dX5_shift_48 (by decide) ?_
      refine lv_istore_n (lv' := [(3, .int 0), (0, .ref g0), (1, .int x), (2, .int y)]) hx hb dX5_shift_49 rfl hl (by decide) rfl (fun ls hl => ?_)
      refine lv_iconst (v := 0) hx hb dX5_shift_50 (by decide) ?_
      refine lv_istore (lv' := [(4, .int 0), (3, .int 0), (0, .ref g0), (1, .int x), (2, .int y)]) hx hb dX5_shift_51 hl (by decide) rfl (fun ls hl => ?_)
      have L53 : ∀ (n53 : Nat) (i : Nat) (x3 : Int32) (f1 : Nat → Int32), (i ≤ 768) → (rng f1 768) → 768 - i < n53 → ∀ (H : Heap) (locs : List Loc) (ls : Array Slot), va_P (dC, dI) vwCl [(g0, .inr (5, [.ref gC, .ref gR, .ref c0, .ref w0, .ref v0, .ref gB, .ref p0, .int (nI cd), .int db, .int st, .int bw, .int ki, .int sg, .int ak])), (gC, .inl (cI, 768, .inl f1)), (gB, .inl (cI, 768, .inl fc))] H → va_S (inL [g0, gC, gB]) s.heap H locs → lv_has ls 7 [(4, .int (nI i)), (3, .int x3), (0, .ref g0), (1, .int x), (2, .int y)] → W p l e (headSpec wsX5_shift ({ frames := 2, cells := 0, slots := 0, locals := 53 } : Room)).room s m ([.ref g0, .int x, .int y] : List Value).toArray below meth c H locs 0 0 (MQ below (va_Qi (fun (r : Int32) (u : (Nat → Int32) × (Nat → Int32)) => match u with | (f9, f8) => rng f9 768) (fun (u : (Nat → Int32) × (Nat → Int32)) (t : State) => match u with | (f9, f8) => va_P (dC, dI) vwCl [(g0, .inr (5, [.ref gC, .ref gR, .ref c0, .ref w0, .ref v0, .ref gB, .ref p0, .int (nI cd), .int db, .int st, .int bw, .int ki, .int sg, .int ak])), (gC, .inl (cI, 768, .inl f9)), (gB, .inl (cI, 768, .inl f8))] t.heap) (inL [g0, gC, gB])) ([.ref g0, .int x, .int y] : List Value).toArray s 0 0 (inL [g0, gC, gB])) (F0 m 53 ls []) := by
        intro n53
        induction n53 with
        | zero => intro i x3 f1 hi hf hz; exact absurd hz (Nat.not_lt_zero _)
        | succ n53 ih53 =>
          intro i x3 f1 hi hf hfu H locs ls hP hS hl
          refine lv_iload hx hb dX5_shift_53 (lv_at hl 0 rfl) ?_
          refine lv_sipush (v := 768) hx hb dX5_shift_55 (by decide +kernel) ?_
          refine lv_icmp_ge (tgt := 140) hx hb dX5_shift_58 (by decide) (fun c58 => ?_) (fun c58 => ?_)
          · skip
            have c58 : 768 ≤ i := (nI_leI (a := 768) (b := i) (by omega) (by omega)).mp c58
            obtain rfl : i = 768 := by omega
            refine lv_iload_n hx hb dX5_shift_140 rfl (lv_at hl 1 rfl) ?_
            exact W.iret (v := x3) hx hb hr (fun t ht hW => ⟨⟨x3, (f1, fc), rfl, hf, by show va_P _ _ _ t.heap; rw [ht]; exact hP.sub [0, 1, 2] rfl⟩, hS.F ht⟩) hS.2.2 dX5_shift_141
          · skip
            have c58 : ¬ 768 ≤ i := fun z => c58 ((nI_leI (a := 768) (b := i) (by omega) (by omega)).mpr z)
            refine lv_iload hx hb dX5_shift_61 (lv_at hl 0 rfl) ?_
            refine lv_bipush (v := 32) hx hb dX5_shift_63 (by decide +kernel) ?_
            refine lv_irem hx hb dX5_shift_65 (by decide) ?_
            refine lv_topr (show _ = nI (i % 32) from pk_rem (a := i) (d := 32) (by omega) (by omega) (by omega)) ?_
            refine lv_iload_n hx hb dX5_shift_66 rfl (lv_at hl 3 rfl) ?_
            refine lv_isub hx hb dX5_shift_67 ?_
            refine lv_bipush (v := 32) hx hb dX5_shift_68 (by decide +kernel) ?_
            refine vp_callSi (va_Run.run (va_runS (As := [.int ((nI (i % 32)) - x), .int 32]) (rest := []) ⟨hx, hb, hml, hown, hts⟩ (C_X5_onRow l dC dI cI cZ cP N0 tO ((nI (i % 32)) - x) 32 ) (va_cwS 2 hts gX5_shift_X5_onRow rfl rfl rfl (by decide +kernel) ⟨Nat.le_of_ble_eq_true rfl, Nat.le_of_ble_eq_true rfl⟩) ⟨Gv.blind, Gv.of (hE.S hS hAN) trivial⟩ rfl rfl hl.1 rfl (lv_room (Nat.le_of_ble_eq_true rfl)) dX5_shift_70 ⟨Nat.le_of_ble_eq_true rfl, Nat.le_of_ble_eq_true rfl⟩)) (fun r_3 hr_3 => ?_)
            have hr_3 : r_3 = maxI 0 (minI ((nI (i % 32)) - x) (32 - 1)) := hr_3
            refine lv_topr (show _ = nI (orN ((nI (i % 32)) - x) 32) from (hr_3.trans (orN_eq _ _))) ?_
            refine lv_istore (lv' := [(5, .int (nI (orN ((nI (i % 32)) - x) 32))), (4, .int (nI i)), (3, .int x3), (0, .ref g0), (1, .int x), (2, .int y)]) hx hb dX5_shift_73 hl (by decide) rfl (fun ls hl => ?_)
            refine lv_iload hx hb dX5_shift_75 (lv_at hl 1 rfl) ?_
            refine lv_bipush (v := 32) hx hb dX5_shift_77 (by decide +kernel) ?_
            refine lv_idiv hx hb dX5_shift_79 (by decide) ?_
            refine lv_topr (show _ = nI (i / 32) from pk_div (a := i) (d := 32) (by omega) (by omega) (by omega)) ?_
            refine lv_iload_n hx hb dX5_shift_80 rfl (lv_at hl 5 rfl) ?_
            refine lv_isub hx hb dX5_shift_81 ?_
            refine lv_bipush (v := 24) hx hb dX5_shift_82 (by decide +kernel) ?_
            refine vp_callSi (va_Run.run (va_runS (As := [.int ((nI (i / 32)) - y), .int 24]) (rest := []) ⟨hx, hb, hml, hown, hts⟩ (C_X5_onRow l dC dI cI cZ cP N0 tO ((nI (i / 32)) - y) 24 ) (va_cwS 2 hts gX5_shift_X5_onRow rfl rfl rfl (by decide +kernel) ⟨Nat.le_of_ble_eq_true rfl, Nat.le_of_ble_eq_true rfl⟩) ⟨Gv.blind, Gv.of (hE.S hS hAN) trivial⟩ rfl rfl hl.1 rfl (lv_room (Nat.le_of_ble_eq_true rfl)) dX5_shift_84 ⟨Nat.le_of_ble_eq_true rfl, Nat.le_of_ble_eq_true rfl⟩)) (fun r_4 hr_4 => ?_)
            have hr_4 : r_4 = maxI 0 (minI ((nI (i / 32)) - y) (24 - 1)) := hr_4
            refine lv_topr (show _ = nI (orN ((nI (i / 32)) - y) 24) from (hr_4.trans (orN_eq _ _))) ?_
            refine lv_istore (lv' := [(6, .int (nI (orN ((nI (i / 32)) - y) 24))), (5, .int (nI (orN ((nI (i % 32)) - x) 32))), (4, .int (nI i)), (3, .int x3), (0, .ref g0), (1, .int x), (2, .int y)]) hx hb dX5_shift_87 hl (by decide) rfl (fun ls hl => ?_)
            have ho1 := orN_32 ((nI (i % 32)) - x)
            have ho2 := orN_24 ((nI (i / 32)) - y)
            refine lv_aload_n hx hb dX5_shift_89 rfl (lv_at hl 4 rfl) ?_
            refine va_get (D := (dC, dI)) (ci := 5) (v := .ref gC) (C := RX5) (T := TX5) (N := 14) hx hb hts hinX5 hown hK hP 0 rfl rfl 0 (by decide) (hts (.fieldLink RX5 9 "GreyReel" "canvas" "[I") (List.mem_of_getElem? (i := 3) (by decide +kernel))) (fun _ h9 => h9) rfl dX5_shift_90 ?_
            refine lv_iload hx hb dX5_shift_93 (lv_at hl 2 rfl) ?_
            refine lv_aload_n hx hb dX5_shift_95 rfl (lv_at hl 4 rfl) ?_
            refine va_get (D := (dC, dI)) (ci := 5) (v := .ref gB) (C := RX5) (T := TX5) (N := 14) hx hb hts hinX5 hown hK hP 0 rfl rfl 5 (by decide) (hts (.fieldLink RX5 40 "GreyReel" "canvasBefore" "[I") (List.mem_of_getElem? (i := 4) (by decide +kernel))) (fun _ h9 => h9) rfl dX5_shift_96 ?_
            refine lv_iload hx hb dX5_shift_99 (lv_at hl 0 rfl) ?_
            refine lv_bipush (v := 32) hx hb dX5_shift_101 (by decide +kernel) ?_
            refine lv_imul hx hb dX5_shift_103 ?_
            refine lv_topr (show _ = nI ((orN ((nI (i / 32)) - y) 24) * 32) from pk_mul (orN ((nI (i / 32)) - y) 24) 32) ?_
            refine lv_iload hx hb dX5_shift_104 (lv_at hl 1 rfl) ?_
            refine lv_iadd hx hb dX5_shift_106 ?_
            refine lv_topr (show _ = nI (((orN ((nI (i / 32)) - y) 24) * 32) + (orN ((nI (i % 32)) - x) 32)) from nI_add ((orN ((nI (i / 32)) - y) 24) * 32) (orN ((nI (i % 32)) - x) 32)) ?_
            refine wa_iald (D := (dC, dI)) (i := (((orN ((nI (i / 32)) - y) 24) * 32) + (orN ((nI (i % 32)) - x) 32))) (f := fc) hx hb hK hP 2 0 rfl rfl (by omega) (by omega) dX5_shift_107 ?_
            refine lv_topi (fun x_5 ex_5 => ?_)
            refine wa_iast (D := (dC, dI)) (i := i) (f := f1) hx hb hK hP (hN.D rfl) hS (List.mem_of_getElem? (i := 1) rfl) 1 0 rfl rfl (by omega) (by omega) dX5_shift_108 (fun H locs hP hS => ?_)
            obtain ⟨f_6, ef_6⟩ : ∃ z, z = upd f1 i x_5 := ⟨_, rfl⟩
            rw [← ef_6] at hP
            have hP : va_P (dC, dI) vwCl [(g0, .inr (5, [.ref gC, .ref gR, .ref c0, .ref w0, .ref v0, .ref gB, .ref p0, .int (nI cd), .int db, .int st, .int bw, .int ki, .int sg, .int ak])), (gC, .inl (cI, 768, .inl f_6)), (gB, .inl (cI, 768, .inl fc))] H := hP
            refine lv_iload_n hx hb dX5_shift_109 rfl (lv_at hl 3 rfl) ?_
            refine lv_aload_n hx hb dX5_shift_110 rfl (lv_at hl 4 rfl) ?_
            refine va_get (D := (dC, dI)) (ci := 5) (v := .ref gC) (C := RX5) (T := TX5) (N := 14) hx hb hts hinX5 hown hK hP 0 rfl rfl 0 (by decide) (hts (.fieldLink RX5 9 "GreyReel" "canvas" "[I") (List.mem_of_getElem? (i := 3) (by decide +kernel))) (fun _ h9 => h9) rfl dX5_shift_111 ?_
            refine lv_iload hx hb dX5_shift_114 (lv_at hl 2 rfl) ?_
            refine wa_iald (D := (dC, dI)) (i := i) (f := f_6) hx hb hK hP 1 0 rfl rfl (by omega) (by omega) dX5_shift_116 ?_
            refine lv_aload_n hx hb dX5_shift_117 rfl (lv_at hl 4 rfl) ?_
            refine va_get (D := (dC, dI)) (ci := 5) (v := .ref gB) (C := RX5) (T := TX5) (N := 14) hx hb hts hinX5 hown hK hP 0 rfl rfl 5 (by decide) (hts (.fieldLink RX5 40 "GreyReel" "canvasBefore" "[I") (List.mem_of_getElem? (i := 4) (by decide +kernel))) (fun _ h9 => h9) rfl dX5_shift_118 ?_
            refine lv_iload hx hb dX5_shift_121 (lv_at hl 2 rfl) ?_
            refine wa_iald (D := (dC, dI)) (i := i) (f := fc) hx hb hK hP 2 0 rfl rfl (by omega) (by omega) dX5_shift_123 ?_
            refine lv_icmp_ne (tgt := 131) hx hb dX5_shift_124 (by decide) (fun c124 => ?_) (fun c124 => ?_)
            · skip
              refine lv_iconst (v := 1) hx hb dX5_shift_131 (by decide) ?_
              refine lv_iadd hx hb dX5_shift_132 ?_
              refine lv_topi (fun x_7 ex_7 => ?_)
              refine lv_istore_n (lv' := [(3, .int x_7), (6, .int (nI (orN ((nI (i / 32)) - y) 24))), (5, .int (nI (orN ((nI (i % 32)) - x) 32))), (4, .int (nI i)), (0, .ref g0), (1, .int x), (2, .int y)]) hx hb dX5_shift_133 rfl hl (by decide) rfl (fun ls hl => ?_)
              refine lv_iinc (v := nI (i + 1)) (lv' := [(4, .int (nI (i + 1))), (3, .int x_7), (6, .int (nI (orN ((nI (i / 32)) - y) 24))), (5, .int (nI (orN ((nI (i % 32)) - x) 32))), (0, .ref g0), (1, .int x), (2, .int y)]) hx hb dX5_shift_134 hl (k := 3) rfl (show nI i + Int32.ofInt 1 = nI (i + 1) from nI_add _ _) (by decide) rfl (fun ls hl => ?_)
              refine lv_goto (tgt := 53) hx hb dX5_shift_137 (by decide) ?_
              exact ih53 (i + 1) x_7 f_6 (by omega) (by rw [ef_6, ex_5]; exact rng_upd hf (hc0 _ (by omega))) (by omega) _ _ _ hP hS (lv_sub hl [0, 1, 4, 5, 6] rfl)
            · skip
              refine lv_iconst (v := 0) hx hb dX5_shift_127 (by decide) ?_
              refine lv_goto (tgt := 132) hx hb dX5_shift_128 (by decide) ?_
              refine lv_iadd hx hb dX5_shift_132 ?_
              refine lv_topi (fun x_8 ex_8 => ?_)
              refine lv_istore_n (lv' := [(3, .int x_8), (6, .int (nI (orN ((nI (i / 32)) - y) 24))), (5, .int (nI (orN ((nI (i % 32)) - x) 32))), (4, .int (nI i)), (0, .ref g0), (1, .int x), (2, .int y)]) hx hb dX5_shift_133 rfl hl (by decide) rfl (fun ls hl => ?_)
              refine lv_iinc (v := nI (i + 1)) (lv' := [(4, .int (nI (i + 1))), (3, .int x_8), (6, .int (nI (orN ((nI (i / 32)) - y) 24))), (5, .int (nI (orN ((nI (i % 32)) - x) 32))), (0, .ref g0), (1, .int x), (2, .int y)]) hx hb dX5_shift_134 hl (k := 3) rfl (show nI i + Int32.ofInt 1 = nI (i + 1) from nI_add _ _) (by decide) rfl (fun ls hl => ?_)
              refine lv_goto (tgt := 53) hx hb dX5_shift_137 (by decide) ?_
              exact ih53 (i + 1) x_8 f_6 (by omega) (by rw [ef_6, ex_5]; exact rng_upd hf (hc0 _ (by omega))) (by omega) _ _ _ hP hS (lv_sub hl [0, 1, 4, 5, 6] rfl)
      exact L53 (768 + 1) 0 0 fc (by omega) hc0 (Nat.lt_succ_self _) _ _ _ hP hS (lv_sub hl [0, 1, 2, 3, 4] rfl)
    · skip
      exact False.elim (isW_no hr_2 (show (-16 : Int32).toInt ≤ _ ∧ _ ≤ (16 : Int32).toInt from hy) c19)
