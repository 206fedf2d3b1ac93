/-! BASE: what every contract of this claim stands on -/
-- the nest mates' links, which are no good words
def NST (U : State) : Prop :=
  (va_Nw (.methodLinkNest RX5 21 yX0_init "GreyReel") U ∧ va_Nw (.methodLinkNest RX5 28 yX1_init "GreyReel") U ∧ va_Nw (.methodLinkNest RX5 43 yX2_init "GreyReel") U) ∧
  (va_Nw (.methodLinkNest RX0 11 yX3_init "GreyReel") U ∧ va_Nw (.methodLinkNest RX0 111 yX5_isWithin "GreyReel") U ∧ va_Nw (.methodLinkNest RX0 69 yX5_isFirstOfBand "GreyReel") U) ∧
  (va_Nw (.methodLinkNest RX1 104 yX5_folded "GreyReel") U ∧ va_Nw (.methodLinkNest RX1 25 yX5_onRow "GreyReel") U) ∧
  va_Nw (.methodLinkNest RX2 67 yX5_isFirstOfBand "GreyReel") U ∧
  (va_Nw (.methodLinkNest RX3 24 yX5_onRow "GreyReel") U ∧ va_Nw (.methodLinkNest RX3 49 yX5_firstPointOf "GreyReel") U ∧ va_Nw (.methodLinkNest RX3 58 yX5_isFirstOfBand "GreyReel") U ∧ va_Nw (.methodLinkNest RX3 68 yX5_clip "GreyReel") U) ∧
  va_Nw (.methodLinkNest RX4 11 yX3_init "GreyReel") U
theorem NST.same {u U : State} (h : u.vm = U.vm) (n : NST u) : NST U := by
  obtain ⟨⟨a1, a2, a3⟩, ⟨b1, b2, b3⟩, ⟨c1, c2⟩, d1, ⟨e1, e2, e3, e4⟩, f1⟩ := n
  exact ⟨⟨va_Nw.same rfl h a1, va_Nw.same rfl h a2, va_Nw.same rfl h a3⟩, ⟨va_Nw.same rfl h b1, va_Nw.same rfl h b2, va_Nw.same rfl h b3⟩, ⟨va_Nw.same rfl h c1, va_Nw.same rfl h c2⟩, va_Nw.same rfl h d1, ⟨va_Nw.same rfl h e1, va_Nw.same rfl h e2, va_Nw.same rfl h e3, va_Nw.same rfl h e4⟩, va_Nw.same rfl h f1⟩
theorem NST.warm {s U : State} (h : s.WarmedH U.vm) (n : NST s) : NST U := by
  obtain ⟨⟨a1, a2, a3⟩, ⟨b1, b2, b3⟩, ⟨c1, c2⟩, d1, ⟨e1, e2, e3, e4⟩, f1⟩ := n
  exact ⟨⟨va_Nw.warmM h a1, va_Nw.warmM h a2, va_Nw.warmM h a3⟩, ⟨va_Nw.warmM h b1, va_Nw.warmM h b2, va_Nw.warmM h b3⟩, ⟨va_Nw.warmM h c1, va_Nw.warmM h c2⟩, va_Nw.warmM h d1, ⟨va_Nw.warmM h e1, va_Nw.warmM h e2, va_Nw.warmM h e3, va_Nw.warmM h e4⟩, va_Nw.warmM h f1⟩
-- the zigzag order of the levels, a static array
def ordN (k : Nat) : Nat := [0, 1, 4, 8, 5, 2, 3, 6, 9, 12, 13, 10, 7, 11, 14, 15].getD k 0
def ordI (k : Nat) : Value := .int (nI (ordN k))
abbrev dyn (N0 : Nat) : Nat → Prop := fun q => N0 ≤ q
abbrev TYS (cI cZ cP : ClassId) : List (ClassId × FieldType) := [(cI, .int), (cZ, .boolean), (cP, .object "GreyReel$Picture")]
/-- the surroundings: classes, nest mates, the static array; all own cells lie from N0 on -/
def EV (D : va_G) (cI cZ cP : ClassId) (N0 tO : Nat) (U : State) (H : Heap) : Prop :=
  va_K D vwCl (TYS cI cZ cP) U ∧ NST U ∧ N0 ≤ H.size ∧ va_Z "GreyReel$Studio" "ORDER" "[I" (.ref tO) (dyn N0) U H ∧ va_T .int tO 16 ordI (dyn N0) U H
theorem EV.calling {D : va_G} {cI cZ cP : ClassId} {N0 tO : Nat} {U : State} {g : JFrame} {mk : MethodId} {a : Array Value} {H : Heap} (h : EV D cI cZ cP N0 tO U H) : EV D cI cZ cP N0 tO (U.calling g mk a) H :=
  ⟨va_K.moved (u := U) (U := U.calling g mk a) (Vm.Alike.refl U.vm) h.1, NST.same (u := U) rfl h.2.1, h.2.2.1, va_Z.moved (u := U) (U := U.calling g mk a) (Vm.Alike.refl U.vm) h.2.2.2.1, va_T.moved (u := U) (U := U.calling g mk a) (Vm.Alike.refl U.vm) h.2.2.2.2⟩
theorem EV.warm {D : va_G} {cI cZ cP : ClassId} {N0 tO : Nat} {s U : State} {H : Heap} (hW : s.WarmedH U.vm) (h : EV D cI cZ cP N0 tO s H) : EV D cI cZ cP N0 tO U H :=
  ⟨va_K.moved hW.alike h.1, NST.warm hW h.2.1, h.2.2.1, va_Z.moved hW.alike h.2.2.2.1, va_T.moved hW.alike h.2.2.2.2⟩
theorem EV.kept {D : va_G} {cI cZ cP : ClassId} {N0 tO : Nat} {U : State} {H H1 : Heap} (h : EV D cI cZ cP N0 tO U H) (hz : H.size ≤ H1.size) (hq : ∀ q : Nat, q < H.size → ¬ N0 ≤ q → H1[q]? = H[q]?) : EV D cI cZ cP N0 tO U H1 :=
  ⟨h.1, h.2.1, Nat.le_trans h.2.2.1 hz, va_Z.kept h.2.2.2.1 hq, va_T.kept h.2.2.2.2 hq⟩
/-- the surroundings persist along a method that writes among its own cells alone -/
theorem EV.S {D : va_G} {cI cZ cP : ClassId} {N0 tO : Nat} {U : State} {H0 H : Heap} {A : Nat → Prop} {locs : List Loc} (h : EV D cI cZ cP N0 tO U H0) (hS : va_S A H0 H locs) (hA : ∀ q, A q → N0 ≤ q) : EV D cI cZ cP N0 tO U H :=
  h.kept hS.1 (fun q h1 h2 => hS.2.1 q h1 (fun z => h2 (hA q z)))
-- addresses: apart, and own
def AD (N0 : Nat) (as : List Nat) : Prop := as.Nodup ∧ ∀ a ∈ as, N0 ≤ a
theorem AD.D {N0 : Nat} {as : List Nat} (h : AD N0 as) {ws : va_W} (hw : ws.map (fun q => q.1) = as) : va_D (dyn N0) ws := by
  subst hw
  refine ⟨fun i j p q hi hj hpq => ?_, fun k q hk => h.2 _ (List.mem_map_of_mem (List.mem_of_getElem? hk))⟩
  have e1 : (ws.map (fun q => q.1))[i]? = some p.1 := by rw [List.getElem?_map, hi]; rfl
  have e2 : (ws.map (fun q => q.1))[j]? = some p.1 := by rw [List.getElem?_map, hj, hpq]; rfl
  have li := (List.getElem?_eq_some_iff.mp e1).1
  have lj := (List.getElem?_eq_some_iff.mp e2).1
  exact (List.getElem?_inj li h.1).mp (e1.trans e2.symm)
theorem AD.sub {N0 : Nat} {as bs : List Nat} (h : AD N0 as) (is : List Nat) (hn : va_nd is = true) (hs : is.map (fun i => as[i]?) = bs.map some) : AD N0 bs := by
  have key : ∀ (k : Nat) (q : Nat), bs[k]? = some q → ∃ i, is[k]? = some i ∧ as[i]? = some q := by
    intro k q hk
    have h1 : (is.map (fun i => as[i]?))[k]? = some (some q) := by rw [hs, List.getElem?_map, hk]; rfl
    rw [List.getElem?_map] at h1
    cases hi : is[k]? with
    | none => rw [hi] at h1; cases h1
    | some i => rw [hi] at h1; exact ⟨i, rfl, Option.some.inj h1⟩
  refine ⟨List.pairwise_iff_getElem.mpr (fun i j hi hj hij e2 => ?_), fun a ha => ?_⟩
  · obtain ⟨a, h1, h2⟩ := key i _ (List.getElem?_eq_getElem hi)
    obtain ⟨b, h3, h4⟩ := key j _ (List.getElem?_eq_getElem hj)
    rw [e2] at h2
    have la := (List.getElem?_eq_some_iff.mp h2).1
    have hab : a = b := (List.getElem?_inj la h.1).mp (h2.trans h4.symm)
    subst hab
    have := va_nd_inj is hn i j a h1 h3
    omega
  · obtain ⟨k, hk⟩ := List.getElem?_of_mem ha
    obtain ⟨i, -, h2⟩ := key k a hk
    exact h.2 a (List.mem_of_getElem? h2)
-- a world with several cells set
def setAll (ws : va_W) : List Nat → va_W → va_W
  | i :: is, x :: xs => setAll (ws.set i x) is xs
  | _, _ => ws
theorem setAll_map : ∀ (is : List Nat) (xs : va_W) (ws : va_W), is.map (fun i => (ws[i]?).map (fun q => q.1)) = xs.map (fun x => some x.1) → (setAll ws is xs).map (fun q => q.1) = ws.map (fun q => q.1)
  | [], [], ws, _ => rfl
  | [], _ :: _, ws, h => by simp at h
  | _ :: _, [], ws, h => by simp at h
  | i :: is, x :: xs, ws, h => by
    simp only [List.map_cons, List.cons.injEq] at h
    obtain ⟨h1, h2⟩ := h
    have e : (ws.set i x).map (fun q => q.1) = ws.map (fun q => q.1) := by
      apply List.ext_getElem?
      intro k
      rw [List.getElem?_map, List.getElem?_map]
      by_cases hk : k = i
      · subst hk
        have hl : k < ws.length := by
          rcases Nat.lt_or_ge k ws.length with q | q
          · exact q
          · rw [List.getElem?_eq_none q] at h1; cases h1
        rw [List.getElem?_set_self hl, h1]
        rfl
      · rw [List.getElem?_set_ne (Ne.symm hk)]
    have e2 : is.map (fun j => ((ws.set i x)[j]?).map (fun q => q.1)) = xs.map (fun x => some x.1) := by
      rw [← h2]
      apply List.map_congr_left
      intro j _
      show ((ws.set i x)[j]?).map (fun q => q.1) = (ws[j]?).map (fun q => q.1)
      rw [← List.getElem?_map, ← List.getElem?_map, e]
    exact (setAll_map is xs (ws.set i x) e2).trans e
theorem setAll_get : ∀ (is : List Nat) (xs : va_W) (ws : va_W) (k : Nat) (q : Nat × va_E), (setAll ws is xs)[k]? = some q → q ∈ xs ∨ (k ∉ is.take xs.length ∧ ws[k]? = some q)
  | [], xs, ws, k, q, h => Or.inr ⟨by simp, by simpa [setAll] using h⟩
  | _ :: _, [], ws, k, q, h => Or.inr ⟨by simp, by simpa [setAll] using h⟩
  | i :: is, x :: xs, ws, k, q, h => by
    rcases setAll_get is xs (ws.set i x) k q h with h1 | ⟨h1, h2⟩
    · exact Or.inl (List.mem_cons_of_mem _ h1)
    · by_cases hk : k = i
      · subst hk
        rcases Nat.lt_or_ge k ws.length with hl | hl
        · rw [List.getElem?_set_self hl] at h2
          cases h2
          exact Or.inl List.mem_cons_self
        · rw [List.getElem?_eq_none (by rw [List.length_set]; exact hl)] at h2
          cases h2
      · rw [List.getElem?_set_ne (Ne.symm hk)] at h2
        refine Or.inr ⟨?_, h2⟩
        rw [List.length_cons, List.take_succ_cons]
        exact fun z => (List.mem_cons.mp z).elim hk h1
/-- behind a call: the cells that it wrote anew, all others as they were -/
theorem va_back {D : va_G} {cl : List vw_C} {ws wn : va_W} {H H1 : Heap} {N0 : Nat} {as L : List Nat} (hP : va_P D cl ws H) (hN : AD N0 as) (hw : ws.map (fun q => q.1) = as) (is : List Nat) (hC : is.map (fun i => (ws[i]?).map (fun q => q.1)) = wn.map (fun x => some x.1)) (hL : wn.map (fun x => x.1) = L) (hk : ∀ q : Nat, q < H.size → q ∉ L → H1[q]? = H[q]?) (hPn : va_P D cl wn H1) : va_P D cl (setAll ws is wn) H1 := by
  intro k q hq
  rcases setAll_get is wn ws k q hq with h | ⟨h1, h2⟩
  · obtain ⟨j, hj⟩ := List.getElem?_of_mem h
    exact hPn j q hj
  · refine (hP k q h2).kept (hk q.1 (hP k q h2).lt (fun z => h1 ?_))
    rw [← hL] at z
    obtain ⟨x, hx, hxq⟩ := List.mem_map.mp z
    obtain ⟨j, hj⟩ := List.getElem?_of_mem hx
    have e1 : (is.map (fun i => (ws[i]?).map (fun q => q.1)))[j]? = some (some x.1) := by rw [hC, List.getElem?_map, hj]; rfl
    rw [List.getElem?_map] at e1
    cases hi : is[j]? with
    | none => rw [hi] at e1; cases e1
    | some i =>
      rw [hi] at e1
      have e2 : (ws[i]?).map (fun q => q.1) = some x.1 := Option.some.inj e1
      cases hwi : ws[i]? with
      | none => rw [hwi] at e2; cases e2
      | some y =>
        rw [hwi] at e2
        have e3 : y.1 = x.1 := Option.some.inj e2
        have hki : k = i := (hN.D hw).1 k i q y h2 hwi (hxq.symm.trans e3.symm)
        subst hki
        have hjl := (List.getElem?_eq_some_iff.mp hj).1
        refine List.mem_of_getElem? (i := j) ?_
        rw [List.getElem?_take]
        rw [if_pos hjl]
        exact hi
theorem AD.in {N0 : Nat} {as L : List Nat} (h : AD N0 as) (is : List Nat) (hs : is.map (fun i => as[i]?) = L.map some) : ∀ q ∈ L, N0 ≤ q := by
  intro q hq
  obtain ⟨k, hk⟩ := List.getElem?_of_mem hq
  have h1 : (is.map (fun i => as[i]?))[k]? = some (some q) := by rw [hs, List.getElem?_map, hk]; rfl
  rw [List.getElem?_map] at h1
  cases hi : is[k]? with
  | none => rw [hi] at h1; cases h1
  | some i => rw [hi] at h1; exact h.2 q (List.mem_of_getElem? (Option.some.inj h1))
-- two arrays of one content, as far as they go
theorem va_cong {D : va_G} {cl : List vw_C} {a n : Nat} {cA : ClassId} {f g : Nat → Int32} {H : Heap} (h : ∀ k, k < n → f k = g k) (hf : va_at D cl (a, .inl (cA, n, .inl f)) H) : va_at D cl (a, .inl (cA, n, .inl g)) H := by
  have e : vp_cell cA (n, .inl f) = vp_cell cA (n, .inl g) := by
    rw [vp_cell_i, vp_cell_i]
    unfold arrV
    congr 2
    funext j
    exact congrArg Value.int (h j.val j.isLt)
  show H[a]? = some (vp_cell cA (n, .inl g))
  rw [← e]
  exact hf
theorem va_P.cong {D : va_G} {cl : List vw_C} {ws : va_W} {H : Heap} (hP : va_P D cl ws H) (q0 : Nat) {a n : Nat} {cA : ClassId} {f : Nat → Int32} (g : Nat → Int32) (ha : ws[q0]? = some (a, .inl (cA, n, .inl f))) (h : ∀ k, k < n → f k = g k) : va_P D cl (ws.set q0 (a, .inl (cA, n, .inl g))) H := by
  intro k q hq
  by_cases hk : k = q0
  · subst hk
    rw [List.getElem?_set_self (List.getElem?_eq_some_iff.mp ha).1] at hq
    cases hq
    exact va_cong h (hP k _ ha)
  · rw [List.getElem?_set_ne (Ne.symm hk)] at hq
    exact hP k q hq
-- the first n places of g, the others of f
def fillTo (g f : Nat → Int32) (n : Nat) : Nat → Int32 := fun k => if k < n then g k else f k
theorem fillTo_0 (g f : Nat → Int32) : fillTo g f 0 = f := by funext k; simp [fillTo]
theorem fillTo_s (g f : Nat → Int32) (n : Nat) {x : Int32} (h : x = g n) : upd (fillTo g f n) n x = fillTo g f (n + 1) := by
  subst h
  funext k
  unfold upd fillTo
  by_cases h1 : k = n
  · subst h1; simp
  · rw [if_neg h1]
    by_cases h2 : k < n
    · rw [if_pos h2, if_pos (by omega)]
    · rw [if_neg h2, if_neg (by omega)]
theorem fillTo_at (g f : Nat → Int32) {n k : Nat} (h : k < n) : fillTo g f n k = g k := if_pos h
-- rows over arrays, their places natural numbers
section ROWS
variable {p : Program} {l : Launch} {e : Env} {R : Room} {s : State} {m : MethodId} {args : Array Value} {below : List Frame} {meth : Method} {c : Code} {H : Heap} {locs : List Loc} {cells slots : Nat} {Q : State → Prop}
variable {cc : ByteArray} {pc : Nat} {ls : Array Slot} {rest : List Value} {D : va_G} {cl : List vw_C} {A : Nat → Prop} {a : Nat} {tys : List (ClassId × FieldType)} {ws : va_W} {H0 : Heap}
theorem lv_topr {x y : Int32} (h : x = y) (k : W p l e R s m args below meth c H locs cells slots Q (F0 m pc ls (.int y :: rest))) : W p l e R s m args below meth c H locs cells slots Q (F0 m pc ls (.int x :: rest)) := by rw [h]; exact k
theorem lv_topr2 {x y : Int32} {v : Value} (h : x = y) (k : W p l e R s m args below meth c H locs cells slots Q (F0 m pc ls (v :: .int y :: rest))) : W p l e R s m args below meth c H locs cells slots Q (F0 m pc ls (v :: .int x :: rest)) := by rw [h]; exact k
theorem wa_iald (hexec : p.tables.exec = Jvm.exec) (hb : c.code = cc) (hK : va_K D cl tys s) (hP : va_P D cl ws H) (q0 t0 : Nat) {cA : ClassId} {n : Nat} {f : Nat → Int32} (ha : ws[q0]? = some (a, .inl (cA, n, .inl f))) (ht : tys[t0]? = some (cA, .int)) {i : Nat} (hi : i < n) (hn : n < 2 ^ 31) (hdg : decode cc pc = .ok (.iaload, 1))
    (kk : W p l e R s m args below meth c H locs cells slots Q (F0 m (pc + 1) ls (.int (f i) :: rest))) : W p l e R s m args below meth c H locs cells slots Q (F0 m pc ls (.int (nI i) :: .ref a :: rest)) :=
  va_iald hexec hb hK hP q0 t0 ha ht (vp_in_nI hi hn) hdg (by rw [nI_clamp (Nat.lt_trans hi hn)]; exact kk)
theorem wa_zald (hexec : p.tables.exec = Jvm.exec) (hb : c.code = cc) (hK : va_K D cl tys s) (hP : va_P D cl ws H) (q0 t0 : Nat) {cA : ClassId} {n : Nat} {f : Nat → Int32} (ha : ws[q0]? = some (a, .inl (cA, n, .inl f))) (ht : tys[t0]? = some (cA, .boolean)) {i : Nat} (hi : i < n) (hn : n < 2 ^ 31) (hdg : decode cc pc = .ok (.baload, 1))
    (kk : W p l e R s m args below meth c H locs cells slots Q (F0 m (pc + 1) ls (.int (f i) :: rest))) : W p l e R s m args below meth c H locs cells slots Q (F0 m pc ls (.int (nI i) :: .ref a :: rest)) :=
  va_zald hexec hb hK hP q0 t0 ha ht (vp_in_nI hi hn) hdg (by rw [nI_clamp (Nat.lt_trans hi hn)]; exact kk)
theorem wa_iast (hexec : p.tables.exec = Jvm.exec) (hb : c.code = cc) (hK : va_K D cl tys s) (hP : va_P D cl ws H) {B : Nat → Prop} (hD : va_D B ws) (hS : va_S A H0 H locs) (hA : A a) (q0 t0 : Nat) {cA : ClassId} {n : Nat} {f : Nat → Int32} (ha : ws[q0]? = some (a, .inl (cA, n, .inl f))) (ht : tys[t0]? = some (cA, .int)) {i : Nat} {x : Int32} (hi : i < n) (hn : n < 2 ^ 31) (hdg : decode cc pc = .ok (.iastore, 1))
    (kk : ∀ (H1 : Heap) (locs1 : List Loc), va_P D cl (ws.set q0 (a, .inl (cA, n, .inl (upd f i x)))) H1 → va_S A H0 H1 locs1 → W p l e R s m args below meth c H1 locs1 cells slots Q (F0 m (pc + 1) ls rest)) : W p l e R s m args below meth c H locs cells slots Q (F0 m pc ls (.int x :: .int (nI i) :: .ref a :: rest)) := by
  have hin : vp_in (nI i) n := vp_in_nI hi hn
  have hcl : (nI i).toNatClampNeg = i := nI_clamp (Nat.lt_trans hi hn)
  refine W.iast hexec hb (hP q0 _ ha) ((hK.2 t0 _ ht).1 n (fun j => .int (f j))) (fun q => by cases q) (by show ¬ (nI i < 0 ∨ (arrV _ _ _).slots.size ≤ _); rw [arrV_size]; exact hin) rfl rfl hdg fun H1 e z oq => ?_
  refine kk H1 _ (hP.set hD ha ?_ oq) (hS.put z oq hA)
  show H1[a]? = some (vp_cell _ _)
  rw [e, vp_cell_i, vp_cell_i, arrV_store, hcl]
  congr 2
  funext q
  by_cases hq : q = i
  · subst hq
    simp [updV, upd]
  · simp [updV, upd, hq]
theorem wa_zast (hexec : p.tables.exec = Jvm.exec) (hb : c.code = cc) (hK : va_K D cl tys s) (hP : va_P D cl ws H) {B : Nat → Prop} (hD : va_D B ws) (hS : va_S A H0 H locs) (hA : A a) (q0 t0 : Nat) {cA : ClassId} {n : Nat} {f : Nat → Int32} (ha : ws[q0]? = some (a, .inl (cA, n, .inl f))) (ht : tys[t0]? = some (cA, .boolean)) {i : Nat} {x : Int32} (hi : i < n) (hn : n < 2 ^ 31) (hdg : decode cc pc = .ok (.bastore, 1))
    (kk : ∀ (H1 : Heap) (locs1 : List Loc), va_P D cl (ws.set q0 (a, .inl (cA, n, .inl (upd f i (vp_nar .boolean x))))) H1 → va_S A H0 H1 locs1 → W p l e R s m args below meth c H1 locs1 cells slots Q (F0 m (pc + 1) ls rest)) : W p l e R s m args below meth c H locs cells slots Q (F0 m pc ls (.int x :: .int (nI i) :: .ref a :: rest)) := by
  have hin : vp_in (nI i) n := vp_in_nI hi hn
  have hcl : (nI i).toNatClampNeg = i := nI_clamp (Nat.lt_trans hi hn)
  refine W.zast hexec hb (hP q0 _ ha) ((hK.2 t0 _ ht).1 n (fun j => .int (f j))) (fun q => by cases q) (by show ¬ (nI i < 0 ∨ (arrV _ _ _).slots.size ≤ _); rw [arrV_size]; exact hin) rfl rfl hdg fun H1 e z oq => ?_
  refine kk H1 _ (hP.set hD ha ?_ oq) (hS.put z oq hA)
  show H1[a]? = some (vp_cell _ _)
  rw [e, vp_cell_i, vp_cell_i, arrV_store, hcl]
  congr 2
  funext q
  by_cases hq : q = i
  · subst hq
    simp [updV, upd, vp_nar]
    try rfl
  · simp [updV, upd, hq]
/-- putfield: va_put, where the cells need not all be among those that the method may write -/
theorem wa_put (hexec : p.tables.exec = Jvm.exec) (hb : c.code = cc) {own ref C : String} {T : u_T} {N ci index : Nat} {Ts : List Cond} (hts : ∀ w ∈ Ts, w.before args s = true) (hin : ∀ w ∈ u_ws C T N, w ∈ Ts) (ty0 : Nat → FieldType) (hty : ∀ k, k < N → parseFieldDescriptor (T k).2.2.1 = some (ty0 k)) (hnm : ∀ a, a < N → ∀ b, b < N → a ≠ b → (T a).2.1 ≠ (T b).2.1) (hown : s.vm.findClass own = some m.cls) (hK : va_K D cl tys s) (hP : va_P D cl ws H) {B : Nat → Prop} (hD : va_D B ws) (hS0 : va_S A H0 H locs) (hA : A a) (q0 : Nat) {fs : List Value} (he : ws[q0]? = some (a, .inr (ci, fs))) (hc : cl[ci]? = some (C, T, N)) (k : Nat) (hk : k < N) (hlink : (Cond.fieldLink own index ref (T k).2.1 (T k).2.2.1).before args s = true) (hsame : ∀ x, s.fieldFound? (T k).1 (T k).2.1 (T k).2.2.1 = some x → s.fieldFound? ref (T k).2.1 (T k).2.2.1 = some x) (hfin : (T k).2.2.2 = false) {ty : FieldType} {v : Value} (hd : parseFieldDescriptor (T k).2.2.1 = some ty) (hn : narrow ty v = v) (hfit : fits ty v = true) (hl : k < fs.length)
    (hdg : decode cc pc = .ok (.putfield index, 3)) (kk : ∀ (H1 : Heap) (locs1 : List Loc), va_P D cl (ws.set q0 (a, .inr (ci, fs.set k v))) H1 → va_S A H0 H1 locs1 → W p l e R s m args below meth c H1 locs1 cells slots Q (F0 m (pc + 3) ls rest)) : W p l e R s m args below meth c H locs cells slots Q (F0 m pc ls (v :: .ref a :: rest)) := by
  have hap := va_apart (own := own) hts hin ty0 hty hnm hK hc
  obtain ⟨r, h1, cell, q1, q2, q3, q4⟩ := hP q0 _ he
  have hr : r = (C, T, N) := Option.some.inj (h1.symm.trans hc)
  subst hr
  obtain ⟨hS, hfc, kC, hkC, hkind⟩ := hK.1 ci _ hc
  obtain ⟨cf, kf, fi, f, hi, hsl⟩ := hS k hk
  have hlay := hts _ (hin _ (u_in_lay hk))
  unfold u_lay at hlay
  rw [if_neg (by rw [hfin]; decide)] at hlay
  have hst := (u_facts hfc hkC (u_lays hts hin hk) hi).1
  have h6 := u_store hfc hkC hkind hlay hi hd hn hfit
  refine W.putK hexec hb (f := f) ⟨hown, hlink, ⟨_, _, _, hsame _ hi⟩, hst⟩ (by rw [q2]; exact h6) q1 q3 (by rw [hsl]; exact k2_hasslot (q4 k hk)) rfl rfl hdg fun H' e1 e2 e3 => ?_
  rw [hsl] at e1 ⊢
  exact kk H' _ (hP.set hD he ⟨_, hc, t_OB.to (V := updV (vp_V fs) k v) ⟨_, e1, q2, q3, t_set q4 hap hk v⟩ (fun j _ => vp_updV_set hl v j)⟩ e3) (hS0.put e2 e3 hA)
end ROWS
-- contracts: what is given, in front of a method; what a reader and a writer leave
def Gv (D : va_G) (cI cZ cP : ClassId) (N0 tO : Nat) (av : List Value) (B : Heap → Prop) : Array Value → State → Prop := va_Pc av (fun U => EV D cI cZ cP N0 tO U U.heap ∧ B U.heap)
theorem Gv.blind {D : va_G} {cI cZ cP : ClassId} {N0 tO : Nat} {av : List Value} {B : Heap → Prop} : FrameBlind (Gv D cI cZ cP N0 tO av B) := fun a U g mk q => ⟨q.1, EV.calling q.2.1, q.2.2⟩
theorem Gv.of {D : va_G} {cI cZ cP : ClassId} {N0 tO : Nat} {av : List Value} {B : Heap → Prop} {s : State} {H : Heap} (hE : EV D cI cZ cP N0 tO s H) (hB : B H) : ∀ U : State, U.heap = H → s.WarmedH U.vm → Gv D cI cZ cP N0 tO av B av.toArray U := by
  intro U hU hW
  subst hU
  exact ⟨rfl, EV.warm hW hE, hB⟩
abbrev inL (L : List Nat) : Nat → Prop := fun q => q ∈ L
abbrev inLN (L : List Nat) (sz : Nat) : Nat → Prop := fun q => q ∈ L ∨ sz ≤ q
