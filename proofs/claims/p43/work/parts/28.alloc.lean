theorem al_nil {A : Nat → Prop} : ∀ q ∈ ([] : List Nat), A q := fun _ h => absurd h List.not_mem_nil
theorem al_cons {A : Nat → Prop} {a : Nat} {L : List Nat} (h : A a) (t : ∀ q ∈ L, A q) : ∀ q ∈ a :: L, A q := fun q hq => (List.mem_cons.mp hq).elim (fun e => by rw [e]; exact h) (t q)
theorem AD.appN {N0 sz : Nat} {as bs : List Nat} (h : AD N0 as) (hlt : ∀ a ∈ as, a < sz) (hb : AD N0 bs) (hge : ∀ b ∈ bs, sz ≤ b) : AD N0 (as ++ bs) := by
  refine ⟨List.pairwise_append.mpr ⟨h.1, hb.1, fun a ha b hb2 e => ?_⟩, fun a ha => ?_⟩
  · have h1 := hlt a ha
    have h2 := hge b hb2
    omega
  · rcases List.mem_append.mp ha with z | z
    · exact h.2 a z
    · exact hb.2 a z
theorem AD.push1 {N0 q : Nat} {as : List Nat} (h : AD N0 as) (hq : q ∉ as) (hn : N0 ≤ q) : AD N0 (as ++ [q]) := by
  refine ⟨List.pairwise_append.mpr ⟨h.1, List.pairwise_singleton _ _, fun a ha b hb e => ?_⟩, fun a ha => ?_⟩
  · rw [List.mem_singleton.mp hb] at e
    rw [e] at ha
    exact hq ha
  · rcases List.mem_append.mp ha with z | z
    · exact h.2 a z
    · rw [List.mem_singleton.mp z]; exact hn
theorem AD.one {N0 q : Nat} (h : N0 ≤ q) : AD N0 [q] := ⟨List.pairwise_singleton _ _, fun a ha => by rw [List.mem_singleton.mp ha]; exact h⟩
theorem va_P.lt9 {D : va_G} {cl : List vw_C} {ws : va_W} {H : Heap} (hP : va_P D cl ws H) {as : List Nat} (hw : ws.map (fun q => q.1) = as) : ∀ a ∈ as, a < H.size := by
  intro a ha
  rw [← hw] at ha
  obtain ⟨x, hx, rfl⟩ := List.mem_map.mp ha
  obtain ⟨k, hk⟩ := List.getElem?_of_mem hx
  exact (hP k x hk).lt
/-- what is more than the surroundings: arrays of numbers can be cloned, there is a class of arrays of pictures -/
def EX (U : State) : Prop := va_Nw (.castable "[I" "java/lang/Cloneable") U ∧ va_AO "GreyReel$Picture" U
theorem EX.calling {U : State} {g : JFrame} {mk : MethodId} {a : Array Value} (h : EX U) : EX (U.calling g mk a) :=
  ⟨va_Nw.same (u := U) rfl rfl h.1, va_AO.moved (u := U) (U := U.calling g mk a) (Vm.Alike.refl U.vm) h.2⟩
theorem EX.warm {s U : State} (hW : s.WarmedH U.vm) (h : EX s) : EX U := ⟨va_Nw.warmC hW h.1, va_AO.moved hW.alike h.2⟩
def GvA (D : va_G) (cI cZ cP : ClassId) (N0 tO : Nat) (av : List Value) (B : Heap → Prop) : Array Value → State → Prop := va_Pc av (fun U => (EV D cI cZ cP N0 tO U U.heap ∧ EX U) ∧ B U.heap)
theorem GvA.blind {D : va_G} {cI cZ cP : ClassId} {N0 tO : Nat} {av : List Value} {B : Heap → Prop} : FrameBlind (GvA D cI cZ cP N0 tO av B) := fun a U g mk q => ⟨q.1, ⟨EV.calling q.2.1.1, EX.calling q.2.1.2⟩, q.2.2⟩
theorem GvA.of {D : va_G} {cI cZ cP : ClassId} {N0 tO : Nat} {av : List Value} {B : Heap → Prop} {s : State} {H : Heap} (hE : EV D cI cZ cP N0 tO s H) (hX : EX s) (hB : B H) : ∀ U : State, U.heap = H → s.WarmedH U.vm → GvA D cI cZ cP N0 tO av B av.toArray U := by
  intro U hU hW
  subst hU
  exact ⟨rfl, ⟨EV.warm hW hE, EX.warm hW hX⟩, hB⟩
theorem nI_nn9 {n : Nat} (h : n < 2147483648) : ¬ nI n < 0 := by
  rw [Int32.lt_iff_toInt_lt, nI_toInt (by omega), ti_0]; omega
theorem cl_fit (cA : ClassId) (n : Nat) (f : Nat → Int32) (i : Nat) (v : Value) (h : (vp_cell cA (n, .inl f)).slots[i]? = some v) : fits .int v = true := by
  rw [vp_cell_i] at h
  rcases Nat.lt_or_ge i n with z | z
  · rw [arrV_read _ _ z] at h
    cases h
    rfl
  · rw [Array.getElem?_eq_none (by rw [arrV_size]; exact z)] at h
    cases h
theorem min_nn {a b : Nat} (h : b ≤ a) (ha : a < 2147483648) : minI (nI a) (nI b) = nI b := by
  unfold minI
  split
  · rfl
  · rename_i z
    rw [Int32.lt_iff_toInt_lt, nI_toInt (by omega), nI_toInt (by omega)] at z
    rw [show a = b by omega]
theorem cpy_n (f g : Nat → Int32) {n : Nat} (hn : n < 2147483648) {k : Nat} (h : k < n) : va_cpy f g (0 : Int32).toNatClampNeg (0 : Int32).toNatClampNeg (nI n).toNatClampNeg k = f k := by
  have e0 : (0 : Int32).toNatClampNeg = 0 := by decide
  rw [e0, nI_clamp (by omega)]
  unfold va_cpy
  rw [if_pos ⟨Nat.zero_le _, by omega⟩]
  show f (0 + (k - 0)) = f k
  rw [Nat.zero_add, Nat.sub_zero]
theorem row_len {n : Nat} (h : n < 2147483648) : maxI 0 (minI (nI n) (2488 - 1)) = nI (min n 2487) := by
  have e : (2488 : Int32) - 1 = nI 2487 := by decide
  rw [e]
  rcases Nat.lt_or_ge n 2487 with z | z
  · have h1 : minI (nI n) (nI 2487) = nI n := by
      unfold minI
      rw [if_neg (by rw [Int32.lt_iff_toInt_lt, nI_toInt (by omega), nI_toInt (by omega)]; omega)]
    rw [h1, Nat.min_eq_left (by omega)]
    unfold maxI
    split
    · rfl
    · rename_i z2
      rw [Int32.lt_iff_toInt_lt, nI_toInt (by omega), ti_0] at z2
      rw [show n = 0 by omega]
      rfl
  · rw [min_nn (by omega) h, Nat.min_eq_right (by omega)]
    decide
section ROWA
variable {p : Program} {l : Launch} {e : Env} {R : Room} {s : State} {m : MethodId} {args : Array Value} {below : List Frame} {meth : Method} {c : Code} {H : Heap} {locs : List Loc} {cells slots : Nat} {Q : State → Prop}
variable {cc : ByteArray} {pc : Nat} {ls : Array Slot} {rest : List Value} {D : va_G} {cl : List vw_C} {A : Nat → Prop} {a : Nat} {ws : va_W} {H0 : Heap} {cI cZ cP : ClassId} {N0 : Nat} {as : List Nat}
theorem wa_newi (hexec : p.tables.exec = Jvm.exec) (hb : c.code = cc) (harr : (Cond.arrayClass .int).before args s = true) (hK : va_K D cl (TYS cI cZ cP) s) (hP : va_P D cl ws H) (hN : AD N0 as) (hw : ws.map (fun q => q.1) = as) (hS : va_S A H0 H locs) (hA : ∀ q, H0.size ≤ q → A q) (hN0 : N0 ≤ H0.size)
    {n : Int32} {N' : Nat} (hn : ¬ n < 0) (hN' : n.toNatClampNeg = N') (hsm : N' < 10000) (hcells : cells + 1 ≤ R.cells) (hslots : slots + N' ≤ R.slots) (hdg : decode cc pc = .ok (.newarray .int, 2))
    (kk : ∀ (q : Nat) (H1 : Heap), H0.size ≤ q → va_P D cl (ws ++ [(q, .inl (cI, N', .inl (fun _ => 0)))]) H1 → AD N0 (as ++ [q]) → va_S A H0 H1 locs →
      W p l e R s m args below meth c H1 locs (cells + 1) (slots + N') Q (F0 m (pc + 2) ls (.ref q :: rest))) : W p l e R s m args below meth c H locs cells slots Q (F0 m pc ls (.int n :: rest)) := by
  refine va_newaK (atype := .int) hexec hb harr rfl hdg rfl hn hN' (by show N' * 4 ≤ 536870912; omega) hcells hslots rfl fun H1 cA e1 z1 o1 hAr hNm => ?_
  have hcI : cA = cI := Option.some.inj (hNm.symm.trans (hK.2 0 (cI, .int) rfl).2)
  subst hcI
  have hk : ∀ (k : Nat) (x : Nat × va_E), ws[k]? = some x → H1[x.1]? = H[x.1]? := fun k x hx => o1 x.1 ((hP k x hx).lt)
  refine kk H.size H1 hS.1 ((hP.kept hk).app (fun k x hx => ?_)) (hN.appN (hP.lt9 hw) (AD.one (Nat.le_trans hN0 hS.1)) (fun b hb => by rw [List.mem_singleton.mp hb]; exact Nat.le_refl _)) ⟨Nat.le_trans hS.1 (by omega), fun x h1 h2 => (o1 x (Nat.lt_of_lt_of_le h1 hS.1)).trans (hS.2.1 x h1 h2), hS.2.2⟩
  have hz : k < 1 := (List.getElem?_eq_some_iff.mp hx).1
  rw [show k = 0 by omega] at hx
  cases hx
  exact e1
theorem wa_newz (hexec : p.tables.exec = Jvm.exec) (hb : c.code = cc) (harr : (Cond.arrayClass .boolean).before args s = true) (hK : va_K D cl (TYS cI cZ cP) s) (hP : va_P D cl ws H) (hN : AD N0 as) (hw : ws.map (fun q => q.1) = as) (hS : va_S A H0 H locs) (hA : ∀ q, H0.size ≤ q → A q) (hN0 : N0 ≤ H0.size)
    {n : Int32} {N' : Nat} (hn : ¬ n < 0) (hN' : n.toNatClampNeg = N') (hsm : N' < 10000) (hcells : cells + 1 ≤ R.cells) (hslots : slots + N' ≤ R.slots) (hdg : decode cc pc = .ok (.newarray .boolean, 2))
    (kk : ∀ (q : Nat) (H1 : Heap), H0.size ≤ q → va_P D cl (ws ++ [(q, .inl (cZ, N', .inl (fun _ => 0)))]) H1 → AD N0 (as ++ [q]) → va_S A H0 H1 locs →
      W p l e R s m args below meth c H1 locs (cells + 1) (slots + N') Q (F0 m (pc + 2) ls (.ref q :: rest))) : W p l e R s m args below meth c H locs cells slots Q (F0 m pc ls (.int n :: rest)) := by
  refine va_newaK (atype := .boolean) hexec hb harr rfl hdg rfl hn hN' (by show N' * 1 ≤ 536870912; omega) hcells hslots rfl fun H1 cA e1 z1 o1 hAr hNm => ?_
  have hcI : cA = cZ := Option.some.inj (hNm.symm.trans (hK.2 1 (cZ, .boolean) rfl).2)
  subst hcI
  have hk : ∀ (k : Nat) (x : Nat × va_E), ws[k]? = some x → H1[x.1]? = H[x.1]? := fun k x hx => o1 x.1 ((hP k x hx).lt)
  refine kk H.size H1 hS.1 ((hP.kept hk).app (fun k x hx => ?_)) (hN.appN (hP.lt9 hw) (AD.one (Nat.le_trans hN0 hS.1)) (fun b hb => by rw [List.mem_singleton.mp hb]; exact Nat.le_refl _)) ⟨Nat.le_trans hS.1 (by omega), fun x h1 h2 => (o1 x (Nat.lt_of_lt_of_le h1 hS.1)).trans (hS.2.1 x h1 h2), hS.2.2⟩
  have hz : k < 1 := (List.getElem?_eq_some_iff.mp hx).1
  rw [show k = 0 by omega] at hx
  cases hx
  exact e1
theorem wa_newq (hexec : p.tables.exec = Jvm.exec) (hb : c.code = cc) {own : String} {index : Nat} (hown : s.vm.findClass own = some m.cls) (hclink : (Cond.classLink own index "GreyReel$Picture").before args s = true) (hover : va_AO "GreyReel$Picture" s) (hK : va_K D cl (TYS cI cZ cP) s) (hP : va_P D cl ws H) (hN : AD N0 as) (hw : ws.map (fun q => q.1) = as) (hS : va_S A H0 H locs) (hA : ∀ q, H0.size ≤ q → A q) (hN0 : N0 ≤ H0.size)
    {n : Int32} {N' : Nat} (hn : ¬ n < 0) (hN' : n.toNatClampNeg = N') (hsm : N' < 10000) (hcells : cells + 1 ≤ R.cells) (hslots : slots + N' ≤ R.slots) (hdg : decode cc pc = .ok (.anewarray index, 3))
    (kk : ∀ (q : Nat) (H1 : Heap), H0.size ≤ q → va_P D cl (ws ++ [(q, .inl (cP, N', .inr (.inr (.inr (.inr (fun _ => none))))))]) H1 → AD N0 (as ++ [q]) → va_S A H0 H1 locs →
      W p l e R s m args below meth c H1 locs (cells + 1) (slots + N') Q (F0 m (pc + 3) ls (.ref q :: rest))) : W p l e R s m args below meth c H locs cells slots Q (F0 m pc ls (.int n :: rest)) := by
  subst hN'
  refine W.anew hexec hb hown hclink (va_AO.use hover) rfl hdg rfl hn (by omega) hcells hslots fun cA kA comp f1 f2 f3 f4 => ?_
  have hcI : cA = cP := by
    obtain ⟨kA2, comp2, g1, g2, g3, g4⟩ := (hK.2 2 (cP, .object "GreyReel$Picture") rfl).2
    exact Option.some.inj (f1.symm.trans g4)
  subst hcI
  generalize hH1 : H.push ({ cls := cA, slots := Array.replicate n.toNatClampNeg .null, vm := .none } : Cell) = H1
  have z1 : H1.size = H.size + 1 := by rw [← hH1, Array.size_push]
  have e1 : H1[H.size]? = some (arrV cA n.toNatClampNeg (fun _ => .null)) := by rw [← hH1, Array.getElem?_push_size, ← arrV_new]
  have o1 : ∀ q : Nat, q < H.size → H1[q]? = H[q]? := fun q hq => by rw [← hH1, Array.getElem?_push, if_neg (Nat.ne_of_lt hq)]
  have hk : ∀ (k : Nat) (x : Nat × va_E), ws[k]? = some x → H1[x.1]? = H[x.1]? := fun k x hx => o1 x.1 ((hP k x hx).lt)
  refine kk H.size H1 hS.1 ((hP.kept hk).app (fun k x hx => ?_)) (hN.appN (hP.lt9 hw) (AD.one (Nat.le_trans hN0 hS.1)) (fun b hb => by rw [List.mem_singleton.mp hb]; exact Nat.le_refl _)) ⟨Nat.le_trans hS.1 (by omega), fun x h1 h2 => (o1 x (Nat.lt_of_lt_of_le h1 hS.1)).trans (hS.2.1 x h1 h2), hS.2.2⟩
  have hz : k < 1 := (List.getElem?_eq_some_iff.mp hx).1
  rw [show k = 0 by omega] at hx
  cases hx
  show H1[H.size]? = some (vp_cell _ _)
  rw [vp_cell_q]
  exact e1
theorem wa_newo {c0 : Code} (hexec : p.tables.exec = Jvm.exec) (hb : c0.code = cc) {own C : String} {T : u_T} {N ci index : Nat} {Ts : List Cond} (hts : ∀ w ∈ Ts, w.before args s = true) (hin : ∀ w ∈ u_ws C T N, w ∈ Ts) (ty : Nat → FieldType) (hty : ∀ k, k < N → parseFieldDescriptor (T k).2.2.1 = some (ty k)) (hown : s.vm.findClass own = some m.cls) (hcl : (Cond.classLink own index C).before args s = true) (hinst : (Cond.instantiable C N).before args s = true) (hini : (Cond.initialized C).before args s = true)
    {tys : List (ClassId × FieldType)} (hK : va_K D cl tys s) (hP : va_P D cl ws H) (hN : AD N0 as) (hw : ws.map (fun q => q.1) = as) (hS : va_S A H0 H locs) (hA : ∀ q, H0.size ≤ q → A q) (hN0 : N0 ≤ H0.size) (hc : cl[ci]? = some (C, T, N)) {fs : List Value} (hfs : ∀ j, j < N → defaultValue (ty j) = vp_V fs j) (hcells : cells + 1 ≤ R.cells) (hslots : slots + N ≤ R.slots) (hdg : decode cc pc = .ok (.new index, 3))
    (kk : ∀ (q : Nat) (H1 : Heap), H0.size ≤ q → va_P D cl (ws ++ [(q, .inr (ci, fs))]) H1 → AD N0 (as ++ [q]) → va_S A H0 H1 locs →
      W p l e R s m args below meth c0 H1 locs (cells + 1) (slots + N) Q (F0 m (pc + 3) ls (.ref q :: rest))) : W p l e R s m args below meth c0 H locs cells slots Q (F0 m pc ls rest) := by
  have hKn := hK.1 ci _ hc
  refine W.newcK hexec hb hown hcl hinst hini rfl hdg hcells hslots hKn.2.1 rfl fun H1 kC hkC e1 z1 o1 => ?_
  have hk : ∀ (k : Nat) (x : Nat × va_E), ws[k]? = some x → H1[x.1]? = H[x.1]? := fun k x hx => o1 x.1 ((hP k x hx).lt)
  refine kk H.size H1 hS.1 ((hP.kept hk).app (fun k x hx => ?_)) (hN.appN (hP.lt9 hw) (AD.one (Nat.le_trans hN0 hS.1)) (fun b hb => by rw [List.mem_singleton.mp hb]; exact Nat.le_refl _)) ⟨Nat.le_trans hS.1 (by omega), fun x h1 h2 => (o1 x (Nat.lt_of_lt_of_le h1 hS.1)).trans (hS.2.1 x h1 h2), hS.2.2⟩
  have hz : k < 1 := (List.getElem?_eq_some_iff.mp hx).1
  rw [show k = 0 by omega] at hx
  cases hx
  exact ⟨_, hc, (u_born ty hts hin hKn hkC e1 hty).to hfs⟩
theorem wa_putF (hexec : p.tables.exec = Jvm.exec) (hb : c.code = cc) {own ref C : String} {T : u_T} {N ci index : Nat} {Ts : List Cond} (hts : ∀ w ∈ Ts, w.before args s = true) (hin : ∀ w ∈ u_ws C T N, w ∈ Ts) (ty0 : Nat → FieldType) (hty : ∀ k, k < N → parseFieldDescriptor (T k).2.2.1 = some (ty0 k)) (hnm : ∀ a, a < N → ∀ b, b < N → a ≠ b → (T a).2.1 ≠ (T b).2.1) (hown : s.vm.findClass own = some m.cls) {tys : List (ClassId × FieldType)} (hK : va_K D cl tys s) (hP : va_P D cl ws H) {B : Nat → Prop} (hD : va_D B ws) (hS0 : va_S A H0 H locs) (hA : A a) (q0 : Nat) {fs : List Value} (he : ws[q0]? = some (a, .inr (ci, fs))) (hc : cl[ci]? = some (C, T, N)) (k : Nat) (hk : k < N) (hlink : (Cond.fieldLink own index ref (T k).2.1 (T k).2.2.1).before args s = true) (hsame : ∀ x, s.fieldFound? (T k).1 (T k).2.1 (T k).2.2.1 = some x → s.fieldFound? ref (T k).2.1 (T k).2.2.1 = some x) (hfin : (T k).2.2.2 = true) (hin2 : meth.name = "<init>") (hdecl : (T k).1 = own) {ty : FieldType} {v : Value} (hd : parseFieldDescriptor (T k).2.2.1 = some ty) (hn : narrow ty v = v) (hfit : fits ty v = true) (hl : k < fs.length)
    (hdg : decode cc pc = .ok (.putfield index, 3)) (kk : ∀ (H1 : Heap) (locs1 : List Loc), va_P D cl (ws.set q0 (a, .inr (ci, fs.set k v))) H1 → va_S A H0 H1 locs1 → W p l e R s m args below meth c H1 locs1 cells slots Q (F0 m (pc + 3) ls rest)) : W p l e R s m args below meth c H locs cells slots Q (F0 m pc ls (v :: .ref a :: rest)) := by
  have hap := va_apart (own := own) hts hin ty0 hty hnm hK hc
  obtain ⟨r, h1, cell, q1, q2, q3, q4⟩ := hP q0 _ he
  have hr : r = (C, T, N) := Option.some.inj (h1.symm.trans hc)
  subst hr
  obtain ⟨hS, hfc, kC, hkC, hkind⟩ := hK.1 ci _ hc
  obtain ⟨cf, kf, fi, f, hi, hsl⟩ := hS k hk
  have hlay := hts _ (hin _ (u_in_lay hk))
  unfold u_lay at hlay
  rw [if_pos hfin] at hlay
  have hst := (u_facts hfc hkC (u_lays hts hin hk) hi).1
  have hcf : m.cls = cf := by
    obtain ⟨_, _, c', _, _, _, -, -, hf', -, -, -, hown2, -⟩ := Cond.laysFinal_spec hlay
    have e1 : c' = cf := by have := hi.symm.trans hf'; simp at this; exact this.1.symm
    rw [hdecl] at hown2
    rw [← e1]; exact Option.some.inj (hown.symm.trans hown2)
  have h6 := u_fits hfc hkC hkind (Or.inr hlay) hi hd hn hfit
  refine W.putFinK hexec hb hown hlink (hsame _ hi) hst hcf hin2 (by rw [q2]; exact h6) q1 q3 (by rw [hsl]; exact k2_hasslot (q4 k hk)) rfl rfl hdg fun H' e1 e2 e3 => ?_
  rw [hsl] at e1 ⊢
  exact kk H' _ (hP.set hD he ⟨_, hc, t_OB.to (V := updV (vp_V fs) k v) ⟨_, e1, q2, q3, t_set q4 hap hk v⟩ (fun j _ => vp_updV_set hl v j)⟩ e3) (hS0.put e2 e3 hA)
theorem wa_astq (hexec : p.tables.exec = Jvm.exec) (hb : c.code = cc) {tys : List (ClassId × FieldType)} (hK : va_K D cl tys s) (hP : va_P D cl ws H) {B : Nat → Prop} (hD : va_D B ws) (hS : va_S A H0 H locs) (hA : A a) (q0 t0 qk ci : Nat) {cA : ClassId} {r : vw_C} {n v : Nat} {vs : List Value} {f : Nat → Option Nat} (ha : ws[q0]? = some (a, .inl (cA, n, .inr (.inr (.inr (.inr f)))))) (ht : tys[t0]? = some (cA, .object r.1)) (hv : ws[qk]? = some (v, .inr (ci, vs))) (hc : cl[ci]? = some r) {i : Nat} (hi : i < n) (hn : n < 2 ^ 31) (hdg : decode cc pc = .ok (.aastore, 1))
    (kk : ∀ (H1 : Heap) (locs1 : List Loc), va_P D cl (ws.set q0 (a, .inl (cA, n, .inr (.inr (.inr (.inr (va_up f i (some v)))))))) H1 → va_S A H0 H1 locs1 → W p l e R s m args below meth c H1 locs1 cells slots Q (F0 m (pc + 1) ls rest)) : W p l e R s m args below meth c H locs cells slots Q (F0 m pc ls (.ref v :: .int (nI i) :: .ref a :: rest)) := by
  have hin : vp_in (nI i) n := vp_in_nI hi hn
  have hcl9 : (nI i).toNatClampNeg = i := nI_clamp (Nat.lt_trans hi hn)
  have hlt : (nI i).toNatClampNeg < n := by rw [hcl9]; exact hi
  have h0 : ¬ nI i < 0 := fun q => hin (Or.inl q)
  obtain ⟨r', hr', cellV, g1, g2, g3, -⟩ := hP qk _ hv
  have hcls := (hK.1 ci r hc).2
  obtain ⟨kA, comp, k1, k2, k3, -⟩ := (hK.2 t0 _ ht).2
  have hcomp : comp = D.1 ci := Option.some.inj (k3.symm.trans hcls.1)
  subst hcomp
  obtain ⟨kC, hkC, -⟩ := hcls.2
  refine W.aast hexec hb (hP q0 _ ha) (fun q h => by cases h) (fun h => by cases h) k1 k2 rfl hkC ⟨h0, by show _ < (arrV _ _ _).slots.size; rw [arrV_size]; exact hlt⟩ g1 (fun q h => by rw [g3] at h; cases h) (by rw [g2]; exact hkC) (by rw [g2]; exact va_assign hcls) rfl rfl hdg fun H1 e z oq => ?_
  refine kk H1 _ (hP.set hD ha ?_ oq) (hS.put z oq hA)
  show H1[a]? = some (vp_cell _ _)
  rw [e]
  rw [vp_cell_q, vp_cell_q, arrV_store, hcl9]
  congr 2
  funext q
  by_cases hq : q = i
  · subst hq
    simp [updV, va_up, va_rf]
  · simp [updV, va_up, hq]
theorem wa_clone (hexec : p.tables.exec = Jvm.exec) (hb : c.code = cc) (hml : c.maxLocals = ls.size) {own : String} {index : Nat} (hown : s.vm.findClass own = some m.cls)
    (hlink : (Cond.methodLink own index ⟨"[I", "clone", "()Ljava/lang/Object;"⟩).before args s = true) (hsame : (Cond.sameMethod "[I" "java/lang/Object" "clone" "()Ljava/lang/Object;").before args s = true)
    (hnat : (Cond.native ⟨"java/lang/Object", "clone", "()Ljava/lang/Object;"⟩).before args s = true) (hinst : (Cond.instanceMethod ⟨"java/lang/Object", "clone", "()Ljava/lang/Object;"⟩).before args s = true)
    (hsel : (Cond.selects "[I" ⟨"[I", "clone", "()Ljava/lang/Object;"⟩ ⟨"java/lang/Object", "clone", "()Ljava/lang/Object;"⟩).before args s = true) (hcl : va_Nw (.castable "[I" "java/lang/Cloneable") s)
    (hK : va_K D cl (TYS cI cZ cP) s) (hP : va_P D cl ws H) (hN : AD N0 as) (hw : ws.map (fun q => q.1) = as) (hD : va_D A ws) (hS : va_S A H0 H locs) (hA : ∀ q, H0.size ≤ q → A q) (hN0 : N0 ≤ H0.size) (hAe : ∀ q, A q → q ∈ as ∨ H0.size ≤ q) (q0 : Nat) {n : Nat} {f : Nat → Int32} (ha : ws[q0]? = some (a, .inl (cI, n, .inl f)))
    (hframes : 1 ≤ R.frames) (hlocals : (rest.map fun v => v.category).sum + 14 ≤ R.locals) (hcells : cells + 1 ≤ R.cells) (hslots : slots + n ≤ R.slots) (hdg : decode cc pc = .ok (.invokevirtual index, 3))
    (kk : ∀ (q : Nat) (H1 : Heap), H0.size ≤ q → va_P D cl (ws ++ [(q, .inl (cI, n, .inl f))]) H1 → AD N0 (as ++ [q]) → va_S A H0 H1 locs →
      W p l e R s m args below meth c H1 locs (cells + 1) (slots + n) Q (F0 m (pc + 3) ls (.ref q :: rest))) : W p l e R s m args below meth c H locs cells slots Q (F0 m pc ls (.ref a :: rest)) := by
  refine va_clone hexec hb hml hown hlink hsame hnat hinst hsel hcl hK hP hD hS hA q0 0 ha rfl (hK.2 0 (cI, .int) rfl).2 (fun i v h => cl_fit _ _ _ i v h) hframes hlocals hcells hslots hdg (fun q H1 hK1 hP1 hD1 hS1 => ?_)
  have hlast : (ws ++ [(q, (.inl (cI, n, .inl f) : va_E))])[ws.length]? = some (q, .inl (cI, n, .inl f)) := by rw [List.getElem?_append_right (Nat.le_refl _), Nat.sub_self]; rfl
  have hq : q ∉ as := fun z => by
    rw [← hw] at z
    obtain ⟨x, hx, hxq⟩ := List.mem_map.mp z
    obtain ⟨j, hj⟩ := List.getElem?_of_mem hx
    have hjl := (List.getElem?_eq_some_iff.mp hj).1
    have := hD1.1 j ws.length x _ (by rw [List.getElem?_append_left hjl]; exact hj) hlast hxq
    omega
  have hge : H0.size ≤ q := (hAe q (hD1.2 ws.length _ hlast)).elim (fun z => absurd z hq) id
  exact kk q H1 hge hP1 (hN.push1 hq (Nat.le_trans hN0 hge)) hS1
end ROWA
set_option maxHeartbeats 4000000 in
set_option maxRecDepth 100000 in
theorem C_X3_init (l : Launch) (dC : Nat → ClassId) (dI : Nat → Nat → Nat) (cI cZ cP : ClassId) (N0 tO : Nat) (h0 : Nat) (sz : Nat)  : Met l yX3_init wsX3_init ({ frames := 1, cells := 4, slots := 1988, locals := 32 } : Room) (GvA (dC, dI) cI cZ cP N0 tO [.ref h0] (fun H => va_P (dC, dI) vwCl [(h0, .inr (3, [.null, .null, .null, .null]))] H ∧ AD N0 [h0] ∧ H.size = sz)) (va_Qv (fun (u : Nat × Nat × Nat × Nat) => match u with | (hA, hQ, hM, hF) => True) (fun (u : Nat × Nat × Nat × Nat) (t : State) => match u with | (hA, hQ, hM, hF) => va_P (dC, dI) vwCl [(h0, .inr (3, [.ref hA, .ref hQ, .ref hM, .ref hF])), (hA, .inl (cI, 1140, .inl (fun _ => 0))), (hQ, .inl (cI, 16, .inl (fun _ => 0))), (hM, .inl (cI, 768, .inl (fun _ => 0))), (hF, .inl (cI, 64, .inl (fun _ => 0)))] t.heap ∧ AD N0 [hA, hQ, hM, hF] ∧ ∀ a9 ∈ [hA, hQ, hM, hF], sz ≤ a9) (inLN [h0] sz)) 4 1988 (inLN [h0] sz) := by
  refine Met.ofW (cc := cX3_init) (maxL := 1) (ret := none) (by decide) rfl ?_
  intro p e s m args below meth c s₁ B hml hv
  obtain ⟨rfl, ⟨hE, hEX⟩, hP, hN, hsz⟩ := hv
  subst hsz
  have hx := B.exec
  have hb := B.bytes
  have hr := B.returns
  have hts := atoms_spec (ws := wsX3_init) B.pre
  have hown : s.vm.findClass RX3 = some m.cls := findClass_of_methodNamed B.named
  have hlocks := B.notSynchronized
  have hK := hE.1
  have hNS := hE.2.1
  have hS : va_S (inLN [h0] s.heap.size) s.heap s.heap [] := va_S.rf
  have hAN : ∀ q : Nat, (inLN [h0] s.heap.size) q → N0 ≤ q := fun q h => h.elim (fun h => hN.in [0] rfl q h) (fun h => Nat.le_trans hE.2.2.1 h)
  have hAs : ∀ q : Nat, s.heap.size ≤ q → (inLN [h0] s.heap.size) q := fun _ h => Or.inr h
  have hA_h0 : (inLN [h0] s.heap.size) h0 := Or.inl (List.mem_of_getElem? (i := 0) rfl)
  have hini : meth.name = "<init>" := (name_of_methodNamed B.named B.method).1
  have hP : va_P (dC, dI) vwCl [(h0, .inr (3, [.null, .null, .null, .null]))] s.heap := hP
  have hinX3 : ∀ w ∈ wsX30, w ∈ wsX3_init := by decide +kernel
  have hl := lv_entry ([.ref h0]) (n := 1) (Nat.le_of_ble_eq_true rfl)
  rw [lg_entry_eq]
  generalize (lg_sl ([.ref h0]) ++ List.replicate (1 - (lg_sl ([.ref h0])).length) Slot.unset).toArray = ls at hl ⊢
  have hl : lv_has ls 1 [(0, .ref h0)] := hl
  refine lv_aload_n hx hb dX3_init_0 rfl (lv_at hl 0 rfl) ?_
  refine W.objInit hx hb hown (hts (.methodLink RX3 5 objectInit) (List.mem_of_getElem? (i := 1) (by decide +kernel))) (hts (.instanceMethod objectInit) (List.mem_of_getElem? (i := 2) (by decide +kernel))) (hts (.code objectInit ⟨#[0xb1]⟩ 1 none) (List.mem_of_getElem? (i := 3) (by decide +kernel))) rfl (by rw [hml]; exact hl.1) rfl dX3_init_1 (Nat.le_of_ble_eq_true rfl) (Nat.le_of_ble_eq_true rfl) ?_
  refine W.eq (g2 := F0 m 4 ls []) rfl ?_
  refine lv_aload_n hx hb dX3_init_4 rfl (lv_at hl 0 rfl) ?_
  refine lv_sipush (v := 1140) hx hb dX3_init_5 (by decide +kernel) ?_
  refine wa_newi (D := (dC, dI)) (N' := 1140) hx hb (hts (.arrayClass .int) (List.mem_of_getElem? (i := 4) (by decide +kernel))) hK hP hN rfl hS hAs hE.2.2.1 (by decide) (by decide) (by omega) (Nat.le_of_ble_eq_true rfl) (Nat.le_of_ble_eq_true rfl) dX3_init_8 (fun q8 H hge_q8 hP hN hS => ?_)
  have hA_q8 := hAs q8 hge_q8
  have hP : va_P (dC, dI) vwCl [(h0, .inr (3, [.null, .null, .null, .null])), (q8, .inl (cI, 1140, .inl (fun _ => 0)))] H := hP
  have hN : AD N0 [h0, q8] := hN
  refine wa_putF (D := (dC, dI)) (ci := 3) (v := .ref q8) (ty := .array .int) (C := RX3) (T := TX3) (N := 4) hx hb hts hinX3 tyX3 tyX3_ok nmX3 hown hK hP (hN.D rfl) hS hA_h0 0 rfl rfl 0 (by decide) (hts (.fieldLink RX3 11 "GreyReel$Studio" "ahead" "[I") (List.mem_of_getElem? (i := 5) (by decide +kernel))) (fun _ h9 => h9) rfl hini rfl (by decide +kernel) rfl rfl (Nat.le_of_ble_eq_true rfl) dX3_init_10 (fun H locs hP hS => ?_)
  have hP : va_P (dC, dI) vwCl [(h0, .inr (3, [.ref q8, .null, .null, .null])), (q8, .inl (cI, 1140, .inl (fun _ => 0)))] H := hP
  refine lv_aload_n hx hb dX3_init_13 rfl (lv_at hl 0 rfl) ?_
  refine lv_bipush (v := 16) hx hb dX3_init_14 (by decide +kernel) ?_
  refine wa_newi (D := (dC, dI)) (N' := 16) hx hb (hts (.arrayClass .int) (List.mem_of_getElem? (i := 4) (by decide +kernel))) hK hP hN rfl hS hAs hE.2.2.1 (by decide) (by decide) (by omega) (Nat.le_of_ble_eq_true rfl) (Nat.le_of_ble_eq_true rfl) dX3_init_16 (fun q16 H hge_q16 hP hN hS => ?_)
  have hA_q16 := hAs q16 hge_q16
  have hP : va_P (dC, dI) vwCl [(h0, .inr (3, [.ref q8, .null, .null, .null])), (q8, .inl (cI, 1140, .inl (fun _ => 0))), (q16, .inl (cI, 16, .inl (fun _ => 0)))] H := hP
  have hN : AD N0 [h0, q8, q16] := hN
  refine wa_putF (D := (dC, dI)) (ci := 3) (v := .ref q16) (ty := .array .int) (C := RX3) (T := TX3) (N := 4) hx hb hts hinX3 tyX3 tyX3_ok nmX3 hown hK hP (hN.D rfl) hS hA_h0 0 rfl rfl 1 (by decide) (hts (.fieldLink RX3 15 "GreyReel$Studio" "quarterNumbers" "[I") (List.mem_of_getElem? (i := 6) (by decide +kernel))) (fun _ h9 => h9) rfl hini rfl (by decide +kernel) rfl rfl (Nat.le_of_ble_eq_true rfl) dX3_init_18 (fun H locs hP hS => ?_)
  have hP : va_P (dC, dI) vwCl [(h0, .inr (3, [.ref q8, .ref q16, .null, .null])), (q8, .inl (cI, 1140, .inl (fun _ => 0))), (q16, .inl (cI, 16, .inl (fun _ => 0)))] H := hP
  refine lv_aload_n hx hb dX3_init_21 rfl (lv_at hl 0 rfl) ?_
  refine lv_sipush (v := 768) hx hb dX3_init_22 (by decide +kernel) ?_
  refine wa_newi (D := (dC, dI)) (N' := 768) hx hb (hts (.arrayClass .int) (List.mem_of_getElem? (i := 4) (by decide +kernel))) hK hP hN rfl hS hAs hE.2.2.1 (by decide) (by decide) (by omega) (Nat.le_of_ble_eq_true rfl) (Nat.le_of_ble_eq_true rfl) dX3_init_25 (fun q25 H hge_q25 hP hN hS => ?_)
  have hA_q25 := hAs q25 hge_q25
  have hP : va_P (dC, dI) vwCl [(h0, .inr (3, [.ref q8, .ref q16, .null, .null])), (q8, .inl (cI, 1140, .inl (fun _ => 0))), (q16, .inl (cI, 16, .inl (fun _ => 0))), (q25, .inl (cI, 768, .inl (fun _ => 0)))] H := hP
  have hN : AD N0 [h0, q8, q16, q25] := hN
  refine wa_putF (D := (dC, dI)) (ci := 3) (v := .ref q25) (ty := .array .int) (C := RX3) (T := TX3) (N := 4) hx hb hts hinX3 tyX3 tyX3_ok nmX3 hown hK hP (hN.D rfl) hS hA_h0 0 rfl rfl 2 (by decide) (hts (.fieldLink RX3 18 "GreyReel$Studio" "made" "[I") (List.mem_of_getElem? (i := 7) (by decide +kernel))) (fun _ h9 => h9) rfl hini rfl (by decide +kernel) rfl rfl (Nat.le_of_ble_eq_true rfl) dX3_init_27 (fun H locs hP hS => ?_)
  have hP : va_P (dC, dI) vwCl [(h0, .inr (3, [.ref q8, .ref q16, .ref q25, .null])), (q8, .inl (cI, 1140, .inl (fun _ => 0))), (q16, .inl (cI, 16, .inl (fun _ => 0))), (q25, .inl (cI, 768, .inl (fun _ => 0)))] H := hP
  refine lv_aload_n hx hb dX3_init_30 rfl (lv_at hl 0 rfl) ?_
  refine lv_bipush (v := 64) hx hb dX3_init_31 (by decide +kernel) ?_
  refine wa_newi (D := (dC, dI)) (N' := 64) hx hb (hts (.arrayClass .int) (List.mem_of_getElem? (i := 4) (by decide +kernel))) hK hP hN rfl hS hAs hE.2.2.1 (by decide) (by decide) (by omega) (Nat.le_of_ble_eq_true rfl) (Nat.le_of_ble_eq_true rfl) dX3_init_33 (fun q33 H hge_q33 hP hN hS => ?_)
  have hA_q33 := hAs q33 hge_q33
  have hP : va_P (dC, dI) vwCl [(h0, .inr (3, [.ref q8, .ref q16, .ref q25, .null])), (q8, .inl (cI, 1140, .inl (fun _ => 0))), (q16, .inl (cI, 16, .inl (fun _ => 0))), (q25, .inl (cI, 768, .inl (fun _ => 0))), (q33, .inl (cI, 64, .inl (fun _ => 0)))] H := hP
  have hN : AD N0 [h0, q8, q16, q25, q33] := hN
  refine wa_putF (D := (dC, dI)) (ci := 3) (v := .ref q33) (ty := .array .int) (C := RX3) (T := TX3) (N := 4) hx hb hts hinX3 tyX3 tyX3_ok nmX3 hown hK hP (hN.D rfl) hS hA_h0 0 rfl rfl 3 (by decide) (hts (.fieldLink RX3 21 "GreyReel$Studio" "foretold" "[I") (List.mem_of_getElem? (i := 8) (by decide +kernel))) (fun _ h9 => h9) rfl hini rfl (by decide +kernel) rfl rfl (Nat.le_of_ble_eq_true rfl) dX3_init_35 (fun H locs hP hS => ?_)
  have hP : va_P (dC, dI) vwCl [(h0, .inr (3, [.ref q8, .ref q16, .ref q25, .ref q33])), (q8, .inl (cI, 1140, .inl (fun _ => 0))), (q16, .inl (cI, 16, .inl (fun _ => 0))), (q25, .inl (cI, 768, .inl (fun _ => 0))), (q33, .inl (cI, 64, .inl (fun _ => 0)))] H := hP
  refine W.widen (k := 4) (n := 1988) (by omega) (by omega) ?_
  exact W.vret hx hb hr (fun t ht hW => ⟨⟨(q8, q16, q25, q33), rfl, trivial, by show va_P _ _ _ t.heap ∧ _; rw [ht]; exact ⟨hP.sub [0, 1, 2, 3, 4] rfl, hN.sub [1, 2, 3, 4] (by decide) rfl, (al_cons hge_q8 (al_cons hge_q16 (al_cons hge_q25 (al_cons hge_q33 al_nil))))⟩⟩, hS.F ht⟩) hS.2.2 dX3_init_38
set_option maxHeartbeats 4000000 in
set_option maxRecDepth 100000 in
theorem C_X1_init (l : Launch) (dC : Nat → ClassId) (dI : Nat → Nat → Nat) (cI cZ cP : ClassId) (N0 tO : Nat) (w0 : Nat) (sz : Nat)  : Met l yX1_init wsX1_init ({ frames := 1, cells := 3, slots := 2495, locals := 32 } : Room) (GvA (dC, dI) cI cZ cP N0 tO [.ref w0] (fun H => va_P (dC, dI) vwCl [(w0, .inr (1, [.null, .null, .null, .int 0]))] H ∧ AD N0 [w0] ∧ H.size = sz)) (va_Qv (fun (u : Nat × Nat × Nat) => match u with | (wR, wK, wM) => True) (fun (u : Nat × Nat × Nat) (t : State) => match u with | (wR, wK, wM) => va_P (dC, dI) vwCl [(w0, .inr (1, [.ref wR, .ref wK, .ref wM, .int 0])), (wR, .inl (cI, 2487, .inl (fun _ => 0))), (wK, .inl (cI, 5, .inl (fun _ => 0))), (wM, .inl (cI, 3, .inl (fun _ => 0)))] t.heap ∧ AD N0 [wR, wK, wM] ∧ ∀ a9 ∈ [wR, wK, wM], sz ≤ a9) (inLN [w0] sz)) 3 2495 (inLN [w0] sz) := by
  refine Met.ofW (cc := cX1_init) (maxL := 1) (ret := none) (by decide) rfl ?_
  intro p e s m args below meth c s₁ B hml hv
  obtain ⟨rfl, ⟨hE, hEX⟩, hP, hN, hsz⟩ := hv
  subst hsz
  have hx := B.exec
  have hb := B.bytes
  have hr := B.returns
  have hts := atoms_spec (ws := wsX1_init) B.pre
  have hown : s.vm.findClass RX1 = some m.cls := findClass_of_methodNamed B.named
  have hlocks := B.notSynchronized
  have hK := hE.1
  have hNS := hE.2.1
  have hS : va_S (inLN [w0] s.heap.size) s.heap s.heap [] := va_S.rf
  have hAN : ∀ q : Nat, (inLN [w0] s.heap.size) q → N0 ≤ q := fun q h => h.elim (fun h => hN.in [0] rfl q h) (fun h => Nat.le_trans hE.2.2.1 h)
  have hAs : ∀ q : Nat, s.heap.size ≤ q → (inLN [w0] s.heap.size) q := fun _ h => Or.inr h
  have hA_w0 : (inLN [w0] s.heap.size) w0 := Or.inl (List.mem_of_getElem? (i := 0) rfl)
  have hini : meth.name = "<init>" := (name_of_methodNamed B.named B.method).1
  have hP : va_P (dC, dI) vwCl [(w0, .inr (1, [.null, .null, .null, .int 0]))] s.heap := hP
  have hinX1 : ∀ w ∈ wsX10, w ∈ wsX1_init := by decide +kernel
  have hl := lv_entry ([.ref w0]) (n := 1) (Nat.le_of_ble_eq_true rfl)
  rw [lg_entry_eq]
  generalize (lg_sl ([.ref w0]) ++ List.replicate (1 - (lg_sl ([.ref w0])).length) Slot.unset).toArray = ls at hl ⊢
  have hl : lv_has ls 1 [(0, .ref w0)] := hl
  refine lv_aload_n hx hb dX1_init_0 rfl (lv_at hl 0 rfl) ?_
  refine W.objInit hx hb hown (hts (.methodLink RX1 3 objectInit) (List.mem_of_getElem? (i := 1) (by decide +kernel))) (hts (.instanceMethod objectInit) (List.mem_of_getElem? (i := 2) (by decide +kernel))) (hts (.code objectInit ⟨#[0xb1]⟩ 1 none) (List.mem_of_getElem? (i := 3) (by decide +kernel))) rfl (by rw [hml]; exact hl.1) rfl dX1_init_1 (Nat.le_of_ble_eq_true rfl) (Nat.le_of_ble_eq_true rfl) ?_
  refine W.eq (g2 := F0 m 4 ls []) rfl ?_
  refine lv_aload_n hx hb dX1_init_4 rfl (lv_at hl 0 rfl) ?_
  refine lv_sipush (v := 2487) hx hb dX1_init_5 (by decide +kernel) ?_
  refine wa_newi (D := (dC, dI)) (N' := 2487) hx hb (hts (.arrayClass .int) (List.mem_of_getElem? (i := 4) (by decide +kernel))) hK hP hN rfl hS hAs hE.2.2.1 (by decide) (by decide) (by omega) (Nat.le_of_ble_eq_true rfl) (Nat.le_of_ble_eq_true rfl) dX1_init_8 (fun q8 H hge_q8 hP hN hS => ?_)
  have hA_q8 := hAs q8 hge_q8
  have hP : va_P (dC, dI) vwCl [(w0, .inr (1, [.null, .null, .null, .int 0])), (q8, .inl (cI, 2487, .inl (fun _ => 0)))] H := hP
  have hN : AD N0 [w0, q8] := hN
  refine wa_putF (D := (dC, dI)) (ci := 1) (v := .ref q8) (ty := .array .int) (C := RX1) (T := TX1) (N := 4) hx hb hts hinX1 tyX1 tyX1_ok nmX1 hown hK hP (hN.D rfl) hS hA_w0 0 rfl rfl 0 (by decide) (hts (.fieldLink RX1 11 "GreyReel$PacketWriter" "row" "[I") (List.mem_of_getElem? (i := 5) (by decide +kernel))) (fun _ h9 => h9) rfl hini rfl (by decide +kernel) rfl rfl (Nat.le_of_ble_eq_true rfl) dX1_init_10 (fun H locs hP hS => ?_)
  have hP : va_P (dC, dI) vwCl [(w0, .inr (1, [.ref q8, .null, .null, .int 0])), (q8, .inl (cI, 2487, .inl (fun _ => 0)))] H := hP
  refine lv_aload_n hx hb dX1_init_13 rfl (lv_at hl 0 rfl) ?_
  refine lv_iconst (v := 5) hx hb dX1_init_14 (by decide) ?_
  refine wa_newi (D := (dC, dI)) (N' := 5) hx hb (hts (.arrayClass .int) (List.mem_of_getElem? (i := 4) (by decide +kernel))) hK hP hN rfl hS hAs hE.2.2.1 (by decide) (by decide) (by omega) (Nat.le_of_ble_eq_true rfl) (Nat.le_of_ble_eq_true rfl) dX1_init_15 (fun q15 H hge_q15 hP hN hS => ?_)
  have hA_q15 := hAs q15 hge_q15
  have hP : va_P (dC, dI) vwCl [(w0, .inr (1, [.ref q8, .null, .null, .int 0])), (q8, .inl (cI, 2487, .inl (fun _ => 0))), (q15, .inl (cI, 5, .inl (fun _ => 0)))] H := hP
  have hN : AD N0 [w0, q8, q15] := hN
  refine wa_putF (D := (dC, dI)) (ci := 1) (v := .ref q15) (ty := .array .int) (C := RX1) (T := TX1) (N := 4) hx hb hts hinX1 tyX1 tyX1_ok nmX1 hown hK hP (hN.D rfl) hS hA_w0 0 rfl rfl 1 (by decide) (hts (.fieldLink RX1 15 "GreyReel$PacketWriter" "kindRow" "[I") (List.mem_of_getElem? (i := 6) (by decide +kernel))) (fun _ h9 => h9) rfl hini rfl (by decide +kernel) rfl rfl (Nat.le_of_ble_eq_true rfl) dX1_init_17 (fun H locs hP hS => ?_)
  have hP : va_P (dC, dI) vwCl [(w0, .inr (1, [.ref q8, .ref q15, .null, .int 0])), (q8, .inl (cI, 2487, .inl (fun _ => 0))), (q15, .inl (cI, 5, .inl (fun _ => 0)))] H := hP
  refine lv_aload_n hx hb dX1_init_20 rfl (lv_at hl 0 rfl) ?_
  refine lv_iconst (v := 3) hx hb dX1_init_21 (by decide) ?_
  refine wa_newi (D := (dC, dI)) (N' := 3) hx hb (hts (.arrayClass .int) (List.mem_of_getElem? (i := 4) (by decide +kernel))) hK hP hN rfl hS hAs hE.2.2.1 (by decide) (by decide) (by omega) (Nat.le_of_ble_eq_true rfl) (Nat.le_of_ble_eq_true rfl) dX1_init_22 (fun q22 H hge_q22 hP hN hS => ?_)
  have hA_q22 := hAs q22 hge_q22
  have hP : va_P (dC, dI) vwCl [(w0, .inr (1, [.ref q8, .ref q15, .null, .int 0])), (q8, .inl (cI, 2487, .inl (fun _ => 0))), (q15, .inl (cI, 5, .inl (fun _ => 0))), (q22, .inl (cI, 3, .inl (fun _ => 0)))] H := hP
  have hN : AD N0 [w0, q8, q15, q22] := hN
  refine wa_putF (D := (dC, dI)) (ci := 1) (v := .ref q22) (ty := .array .int) (C := RX1) (T := TX1) (N := 4) hx hb hts hinX1 tyX1 tyX1_ok nmX1 hown hK hP (hN.D rfl) hS hA_w0 0 rfl rfl 2 (by decide) (hts (.fieldLink RX1 18 "GreyReel$PacketWriter" "mean" "[I") (List.mem_of_getElem? (i := 7) (by decide +kernel))) (fun _ h9 => h9) rfl hini rfl (by decide +kernel) rfl rfl (Nat.le_of_ble_eq_true rfl) dX1_init_24 (fun H locs hP hS => ?_)
  have hP : va_P (dC, dI) vwCl [(w0, .inr (1, [.ref q8, .ref q15, .ref q22, .int 0])), (q8, .inl (cI, 2487, .inl (fun _ => 0))), (q15, .inl (cI, 5, .inl (fun _ => 0))), (q22, .inl (cI, 3, .inl (fun _ => 0)))] H := hP
  refine lv_aload_n hx hb dX1_init_27 rfl (lv_at hl 0 rfl) ?_
  refine lv_iconst (v := 0) hx hb dX1_init_28 (by decide) ?_
  refine wa_put (D := (dC, dI)) (ci := 1) (v := .int 0) (ty := .int) (C := RX1) (T := TX1) (N := 4) hx hb hts hinX1 tyX1 tyX1_ok nmX1 hown hK hP (hN.D rfl) hS hA_w0 0 rfl rfl 3 (by decide) (hts (.fieldLink RX1 21 "GreyReel$PacketWriter" "bitsWritten" "I") (List.mem_of_getElem? (i := 8) (by decide +kernel))) (fun _ h9 => h9) rfl (by decide +kernel) rfl rfl (Nat.le_of_ble_eq_true rfl) dX1_init_29 (fun H locs hP hS => ?_)
  have hP : va_P (dC, dI) vwCl [(w0, .inr (1, [.ref q8, .ref q15, .ref q22, .int 0])), (q8, .inl (cI, 2487, .inl (fun _ => 0))), (q15, .inl (cI, 5, .inl (fun _ => 0))), (q22, .inl (cI, 3, .inl (fun _ => 0)))] H := hP
  refine W.widen (k := 3) (n := 2495) (by omega) (by omega) ?_
  exact W.vret hx hb hr (fun t ht hW => ⟨⟨(q8, q15, q22), rfl, trivial, by show va_P _ _ _ t.heap ∧ _; rw [ht]; exact ⟨hP.sub [0, 1, 2, 3] rfl, hN.sub [1, 2, 3] (by decide) rfl, (al_cons hge_q8 (al_cons hge_q15 (al_cons hge_q22 al_nil)))⟩⟩, hS.F ht⟩) hS.2.2 dX1_init_32
set_option maxHeartbeats 4000000 in
set_option maxRecDepth 100000 in
theorem C_X2_init (l : Launch) (dC : Nat → ClassId) (dI : Nat → Nat → Nat) (cI cZ cP : ClassId) (N0 tO : Nat) (p0 : Nat) (sz : Nat)  : Met l yX2_init wsX2_init ({ frames := 1, cells := 9, slots := 1590, locals := 32 } : Room) (GvA (dC, dI) cI cZ cP N0 tO [.ref p0] (fun H => va_P (dC, dI) vwCl [(p0, .inr (2, [.null, .null, .null, .null, .null, .null, .null, .null, .null, .int 0, .int 0, .int 0, .int 0, .int 0]))] H ∧ AD N0 [p0] ∧ H.size = sz)) (va_Qv (fun (u : Nat × Nat × Nat × Nat × Nat × Nat × Nat × Nat × Nat) => match u with | (pK, pX, pY, pC, pV, pR, pU, pG, pW) => True) (fun (u : Nat × Nat × Nat × Nat × Nat × Nat × Nat × Nat × Nat) (t : State) => match u with | (pK, pX, pY, pC, pV, pR, pU, pG, pW) => va_P (dC, dI) vwCl [(p0, .inr (2, [.ref pK, .ref pX, .ref pY, .ref pC, .ref pV, .ref pR, .ref pU, .ref pG, .ref pW, .int 0, .int 1, .int 0, .int 1, .int 1])), (pK, .inl (cI, 12, .inl (fun _ => 0))), (pX, .inl (cI, 12, .inl (fun _ => 0))), (pY, .inl (cI, 12, .inl (fun _ => 0))), (pC, .inl (cI, 12, .inl (fun _ => 0))), (pV, .inl (cI, 768, .inl (fun _ => 0))), (pR, .inl (cI, 768, .inl (fun _ => 0))), (pU, .inl (cI, 3, .inl (fun _ => 0))), (pG, .inl (cZ, 3, .inl (fun _ => 0))), (pW, .inl (cI, 0, .inl (fun _ => 0)))] t.heap ∧ AD N0 [pK, pX, pY, pC, pV, pR, pU, pG, pW] ∧ ∀ a9 ∈ [pK, pX, pY, pC, pV, pR, pU, pG, pW], sz ≤ a9) (inLN [p0] sz)) 9 1590 (inLN [p0] sz) := by
  refine Met.ofW (cc := cX2_init) (maxL := 1) (ret := none) (by decide) rfl ?_
  intro p e s m args below meth c s₁ B hml hv
  obtain ⟨rfl, ⟨hE, hEX⟩, hP, hN, hsz⟩ := hv
  subst hsz
  have hx := B.exec
  have hb := B.bytes
  have hr := B.returns
  have hts := atoms_spec (ws := wsX2_init) B.pre
  have hown : s.vm.findClass RX2 = some m.cls := findClass_of_methodNamed B.named
  have hlocks := B.notSynchronized
  have hK := hE.1
  have hNS := hE.2.1
  have hS : va_S (inLN [p0] s.heap.size) s.heap s.heap [] := va_S.rf
  have hAN : ∀ q : Nat, (inLN [p0] s.heap.size) q → N0 ≤ q := fun q h => h.elim (fun h => hN.in [0] rfl q h) (fun h => Nat.le_trans hE.2.2.1 h)
  have hAs : ∀ q : Nat, s.heap.size ≤ q → (inLN [p0] s.heap.size) q := fun _ h => Or.inr h
  have hA_p0 : (inLN [p0] s.heap.size) p0 := Or.inl (List.mem_of_getElem? (i := 0) rfl)
  have hini : meth.name = "<init>" := (name_of_methodNamed B.named B.method).1
  have hP : va_P (dC, dI) vwCl [(p0, .inr (2, [.null, .null, .null, .null, .null, .null, .null, .null, .null, .int 0, .int 0, .int 0, .int 0, .int 0]))] s.heap := hP
  have hinX2 : ∀ w ∈ wsX20, w ∈ wsX2_init := by decide +kernel
  have hl := lv_entry ([.ref p0]) (n := 1) (Nat.le_of_ble_eq_true rfl)
  rw [lg_entry_eq]
  generalize (lg_sl ([.ref p0]) ++ List.replicate (1 - (lg_sl ([.ref p0])).length) Slot.unset).toArray = ls at hl ⊢
  have hl : lv_has ls 1 [(0, .ref p0)] := hl
  refine lv_aload_n hx hb dX2_init_0 rfl (lv_at hl 0 rfl) ?_
  refine W.objInit hx hb hown (hts (.methodLink RX2 3 objectInit) (List.mem_of_getElem? (i := 1) (by decide +kernel))) (hts (.instanceMethod objectInit) (List.mem_of_getElem? (i := 2) (by decide +kernel))) (hts (.code objectInit ⟨#[0xb1]⟩ 1 none) (List.mem_of_getElem? (i := 3) (by decide +kernel))) rfl (by rw [hml]; exact hl.1) rfl dX2_init_1 (Nat.le_of_ble_eq_true rfl) (Nat.le_of_ble_eq_true rfl) ?_
  refine W.eq (g2 := F0 m 4 ls []) rfl ?_
  refine lv_aload_n hx hb dX2_init_4 rfl (lv_at hl 0 rfl) ?_
  refine lv_bipush (v := 12) hx hb dX2_init_5 (by decide +kernel) ?_
  refine wa_newi (D := (dC, dI)) (N' := 12) hx hb (hts (.arrayClass .int) (List.mem_of_getElem? (i := 4) (by decide +kernel))) hK hP hN rfl hS hAs hE.2.2.1 (by decide) (by decide) (by omega) (Nat.le_of_ble_eq_true rfl) (Nat.le_of_ble_eq_true rfl) dX2_init_7 (fun q7 H hge_q7 hP hN hS => ?_)
  have hA_q7 := hAs q7 hge_q7
  have hP : va_P (dC, dI) vwCl [(p0, .inr (2, [.null, .null, .null, .null, .null, .null, .null, .null, .null, .int 0, .int 0, .int 0, .int 0, .int 0])), (q7, .inl (cI, 12, .inl (fun _ => 0)))] H := hP
  have hN : AD N0 [p0, q7] := hN
  refine wa_putF (D := (dC, dI)) (ci := 2) (v := .ref q7) (ty := .array .int) (C := RX2) (T := TX2) (N := 14) hx hb hts hinX2 tyX2 tyX2_ok nmX2 hown hK hP (hN.D rfl) hS hA_p0 0 rfl rfl 0 (by decide) (hts (.fieldLink RX2 9 "GreyReel$Picture" "kind" "[I") (List.mem_of_getElem? (i := 5) (by decide +kernel))) (fun _ h9 => h9) rfl hini rfl (by decide +kernel) rfl rfl (Nat.le_of_ble_eq_true rfl) dX2_init_9 (fun H locs hP hS => ?_)
  have hP : va_P (dC, dI) vwCl [(p0, .inr (2, [.ref q7, .null, .null, .null, .null, .null, .null, .null, .null, .int 0, .int 0, .int 0, .int 0, .int 0])), (q7, .inl (cI, 12, .inl (fun _ => 0)))] H := hP
  refine lv_aload_n hx hb dX2_init_12 rfl (lv_at hl 0 rfl) ?_
  refine lv_bipush (v := 12) hx hb dX2_init_13 (by decide +kernel) ?_
  refine wa_newi (D := (dC, dI)) (N' := 12) hx hb (hts (.arrayClass .int) (List.mem_of_getElem? (i := 4) (by decide +kernel))) hK hP hN rfl hS hAs hE.2.2.1 (by decide) (by decide) (by omega) (Nat.le_of_ble_eq_true rfl) (Nat.le_of_ble_eq_true rfl) dX2_init_15 (fun q15 H hge_q15 hP hN hS => ?_)
  have hA_q15 := hAs q15 hge_q15
  have hP : va_P (dC, dI) vwCl [(p0, .inr (2, [.ref q7, .null, .null, .null, .null, .null, .null, .null, .null, .int 0, .int 0, .int 0, .int 0, .int 0])), (q7, .inl (cI, 12, .inl (fun _ => 0))), (q15, .inl (cI, 12, .inl (fun _ => 0)))] H := hP
  have hN : AD N0 [p0, q7, q15] := hN
  refine wa_putF (D := (dC, dI)) (ci := 2) (v := .ref q15) (ty := .array .int) (C := RX2) (T := TX2) (N := 14) hx hb hts hinX2 tyX2 tyX2_ok nmX2 hown hK hP (hN.D rfl) hS hA_p0 0 rfl rfl 1 (by decide) (hts (.fieldLink RX2 15 "GreyReel$Picture" "vx" "[I") (List.mem_of_getElem? (i := 6) (by decide +kernel))) (fun _ h9 => h9) rfl hini rfl (by decide +kernel) rfl rfl (Nat.le_of_ble_eq_true rfl) dX2_init_17 (fun H locs hP hS => ?_)
  have hP : va_P (dC, dI) vwCl [(p0, .inr (2, [.ref q7, .ref q15, .null, .null, .null, .null, .null, .null, .null, .int 0, .int 0, .int 0, .int 0, .int 0])), (q7, .inl (cI, 12, .inl (fun _ => 0))), (q15, .inl (cI, 12, .inl (fun _ => 0)))] H := hP
  refine lv_aload_n hx hb dX2_init_20 rfl (lv_at hl 0 rfl) ?_
  refine lv_bipush (v := 12) hx hb dX2_init_21 (by decide +kernel) ?_
  refine wa_newi (D := (dC, dI)) (N' := 12) hx hb (hts (.arrayClass .int) (List.mem_of_getElem? (i := 4) (by decide +kernel))) hK hP hN rfl hS hAs hE.2.2.1 (by decide) (by decide) (by omega) (Nat.le_of_ble_eq_true rfl) (Nat.le_of_ble_eq_true rfl) dX2_init_23 (fun q23 H hge_q23 hP hN hS => ?_)
  have hA_q23 := hAs q23 hge_q23
  have hP : va_P (dC, dI) vwCl [(p0, .inr (2, [.ref q7, .ref q15, .null, .null, .null, .null, .null, .null, .null, .int 0, .int 0, .int 0, .int 0, .int 0])), (q7, .inl (cI, 12, .inl (fun _ => 0))), (q15, .inl (cI, 12, .inl (fun _ => 0))), (q23, .inl (cI, 12, .inl (fun _ => 0)))] H := hP
  have hN : AD N0 [p0, q7, q15, q23] := hN
  refine wa_putF (D := (dC, dI)) (ci := 2) (v := .ref q23) (ty := .array .int) (C := RX2) (T := TX2) (N := 14) hx hb hts hinX2 tyX2 tyX2_ok nmX2 hown hK hP (hN.D rfl) hS hA_p0 0 rfl rfl 2 (by decide) (hts (.fieldLink RX2 18 "GreyReel$Picture" "vy" "[I") (List.mem_of_getElem? (i := 7) (by decide +kernel))) (fun _ h9 => h9) rfl hini rfl (by decide +kernel) rfl rfl (Nat.le_of_ble_eq_true rfl) dX2_init_25 (fun H locs hP hS => ?_)
  have hP : va_P (dC, dI) vwCl [(p0, .inr (2, [.ref q7, .ref q15, .ref q23, .null, .null, .null, .null, .null, .null, .int 0, .int 0, .int 0, .int 0, .int 0])), (q7, .inl (cI, 12, .inl (fun _ => 0))), (q15, .inl (cI, 12, .inl (fun _ => 0))), (q23, .inl (cI, 12, .inl (fun _ => 0)))] H := hP
  refine lv_aload_n hx hb dX2_init_28 rfl (lv_at hl 0 rfl) ?_
  refine lv_bipush (v := 12) hx hb dX2_init_29 (by decide +kernel) ?_
  refine wa_newi (D := (dC, dI)) (N' := 12) hx hb (hts (.arrayClass .int) (List.mem_of_getElem? (i := 4) (by decide +kernel))) hK hP hN rfl hS hAs hE.2.2.1 (by decide) (by decide) (by omega) (Nat.le_of_ble_eq_true rfl) (Nat.le_of_ble_eq_true rfl) dX2_init_31 (fun q31 H hge_q31 hP hN hS => ?_)
  have hA_q31 := hAs q31 hge_q31
  have hP : va_P (dC, dI) vwCl [(p0, .inr (2, [.ref q7, .ref q15, .ref q23, .null, .null, .null, .null, .null, .null, .int 0, .int 0, .int 0, .int 0, .int 0])), (q7, .inl (cI, 12, .inl (fun _ => 0))), (q15, .inl (cI, 12, .inl (fun _ => 0))), (q23, .inl (cI, 12, .inl (fun _ => 0))), (q31, .inl (cI, 12, .inl (fun _ => 0)))] H := hP
  have hN : AD N0 [p0, q7, q15, q23, q31] := hN
  refine wa_putF (D := (dC, dI)) (ci := 2) (v := .ref q31) (ty := .array .int) (C := RX2) (T := TX2) (N := 14) hx hb hts hinX2 tyX2 tyX2_ok nmX2 hown hK hP (hN.D rfl) hS hA_p0 0 rfl rfl 3 (by decide) (hts (.fieldLink RX2 21 "GreyReel$Picture" "price" "[I") (List.mem_of_getElem? (i := 8) (by decide +kernel))) (fun _ h9 => h9) rfl hini rfl (by decide +kernel) rfl rfl (Nat.le_of_ble_eq_true rfl) dX2_init_33 (fun H locs hP hS => ?_)
  have hP : va_P (dC, dI) vwCl [(p0, .inr (2, [.ref q7, .ref q15, .ref q23, .ref q31, .null, .null, .null, .null, .null, .int 0, .int 0, .int 0, .int 0, .int 0])), (q7, .inl (cI, 12, .inl (fun _ => 0))), (q15, .inl (cI, 12, .inl (fun _ => 0))), (q23, .inl (cI, 12, .inl (fun _ => 0))), (q31, .inl (cI, 12, .inl (fun _ => 0)))] H := hP
  refine lv_aload_n hx hb dX2_init_36 rfl (lv_at hl 0 rfl) ?_
  refine lv_sipush (v := 768) hx hb dX2_init_37 (by decide +kernel) ?_
  refine wa_newi (D := (dC, dI)) (N' := 768) hx hb (hts (.arrayClass .int) (List.mem_of_getElem? (i := 4) (by decide +kernel))) hK hP hN rfl hS hAs hE.2.2.1 (by decide) (by decide) (by omega) (Nat.le_of_ble_eq_true rfl) (Nat.le_of_ble_eq_true rfl) dX2_init_40 (fun q40 H hge_q40 hP hN hS => ?_)
  have hA_q40 := hAs q40 hge_q40
  have hP : va_P (dC, dI) vwCl [(p0, .inr (2, [.ref q7, .ref q15, .ref q23, .ref q31, .null, .null, .null, .null, .null, .int 0, .int 0, .int 0, .int 0, .int 0])), (q7, .inl (cI, 12, .inl (fun _ => 0))), (q15, .inl (cI, 12, .inl (fun _ => 0))), (q23, .inl (cI, 12, .inl (fun _ => 0))), (q31, .inl (cI, 12, .inl (fun _ => 0))), (q40, .inl (cI, 768, .inl (fun _ => 0)))] H := hP
  have hN : AD N0 [p0, q7, q15, q23, q31, q40] := hN
  refine wa_putF (D := (dC, dI)) (ci := 2) (v := .ref q40) (ty := .array .int) (C := RX2) (T := TX2) (N := 14) hx hb hts hinX2 tyX2 tyX2_ok nmX2 hown hK hP (hN.D rfl) hS hA_p0 0 rfl rfl 4 (by decide) (hts (.fieldLink RX2 24 "GreyReel$Picture" "level" "[I") (List.mem_of_getElem? (i := 9) (by decide +kernel))) (fun _ h9 => h9) rfl hini rfl (by decide +kernel) rfl rfl (Nat.le_of_ble_eq_true rfl) dX2_init_42 (fun H locs hP hS => ?_)
  have hP : va_P (dC, dI) vwCl [(p0, .inr (2, [.ref q7, .ref q15, .ref q23, .ref q31, .ref q40, .null, .null, .null, .null, .int 0, .int 0, .int 0, .int 0, .int 0])), (q7, .inl (cI, 12, .inl (fun _ => 0))), (q15, .inl (cI, 12, .inl (fun _ => 0))), (q23, .inl (cI, 12, .inl (fun _ => 0))), (q31, .inl (cI, 12, .inl (fun _ => 0))), (q40, .inl (cI, 768, .inl (fun _ => 0)))] H := hP
  refine lv_aload_n hx hb dX2_init_45 rfl (lv_at hl 0 rfl) ?_
  refine lv_sipush (v := 768) hx hb dX2_init_46 (by decide +kernel) ?_
  refine wa_newi (D := (dC, dI)) (N' := 768) hx hb (hts (.arrayClass .int) (List.mem_of_getElem? (i := 4) (by decide +kernel))) hK hP hN rfl hS hAs hE.2.2.1 (by decide) (by decide) (by omega) (Nat.le_of_ble_eq_true rfl) (Nat.le_of_ble_eq_true rfl) dX2_init_49 (fun q49 H hge_q49 hP hN hS => ?_)
  have hA_q49 := hAs q49 hge_q49
  have hP : va_P (dC, dI) vwCl [(p0, .inr (2, [.ref q7, .ref q15, .ref q23, .ref q31, .ref q40, .null, .null, .null, .null, .int 0, .int 0, .int 0, .int 0, .int 0])), (q7, .inl (cI, 12, .inl (fun _ => 0))), (q15, .inl (cI, 12, .inl (fun _ => 0))), (q23, .inl (cI, 12, .inl (fun _ => 0))), (q31, .inl (cI, 12, .inl (fun _ => 0))), (q40, .inl (cI, 768, .inl (fun _ => 0))), (q49, .inl (cI, 768, .inl (fun _ => 0)))] H := hP
  have hN : AD N0 [p0, q7, q15, q23, q31, q40, q49] := hN
  refine wa_putF (D := (dC, dI)) (ci := 2) (v := .ref q49) (ty := .array .int) (C := RX2) (T := TX2) (N := 14) hx hb hts hinX2 tyX2 tyX2_ok nmX2 hown hK hP (hN.D rfl) hS hA_p0 0 rfl rfl 5 (by decide) (hts (.fieldLink RX2 27 "GreyReel$Picture" "result" "[I") (List.mem_of_getElem? (i := 10) (by decide +kernel))) (fun _ h9 => h9) rfl hini rfl (by decide +kernel) rfl rfl (Nat.le_of_ble_eq_true rfl) dX2_init_51 (fun H locs hP hS => ?_)
  have hP : va_P (dC, dI) vwCl [(p0, .inr (2, [.ref q7, .ref q15, .ref q23, .ref q31, .ref q40, .ref q49, .null, .null, .null, .int 0, .int 0, .int 0, .int 0, .int 0])), (q7, .inl (cI, 12, .inl (fun _ => 0))), (q15, .inl (cI, 12, .inl (fun _ => 0))), (q23, .inl (cI, 12, .inl (fun _ => 0))), (q31, .inl (cI, 12, .inl (fun _ => 0))), (q40, .inl (cI, 768, .inl (fun _ => 0))), (q49, .inl (cI, 768, .inl (fun _ => 0)))] H := hP
  refine lv_aload_n hx hb dX2_init_54 rfl (lv_at hl 0 rfl) ?_
  refine lv_iconst (v := 3) hx hb dX2_init_55 (by decide) ?_
  refine wa_newi (D := (dC, dI)) (N' := 3) hx hb (hts (.arrayClass .int) (List.mem_of_getElem? (i := 4) (by decide +kernel))) hK hP hN rfl hS hAs hE.2.2.1 (by decide) (by decide) (by omega) (Nat.le_of_ble_eq_true rfl) (Nat.le_of_ble_eq_true rfl) dX2_init_56 (fun q56 H hge_q56 hP hN hS => ?_)
  have hA_q56 := hAs q56 hge_q56
  have hP : va_P (dC, dI) vwCl [(p0, .inr (2, [.ref q7, .ref q15, .ref q23, .ref q31, .ref q40, .ref q49, .null, .null, .null, .int 0, .int 0, .int 0, .int 0, .int 0])), (q7, .inl (cI, 12, .inl (fun _ => 0))), (q15, .inl (cI, 12, .inl (fun _ => 0))), (q23, .inl (cI, 12, .inl (fun _ => 0))), (q31, .inl (cI, 12, .inl (fun _ => 0))), (q40, .inl (cI, 768, .inl (fun _ => 0))), (q49, .inl (cI, 768, .inl (fun _ => 0))), (q56, .inl (cI, 3, .inl (fun _ => 0)))] H := hP
  have hN : AD N0 [p0, q7, q15, q23, q31, q40, q49, q56] := hN
  refine wa_putF (D := (dC, dI)) (ci := 2) (v := .ref q56) (ty := .array .int) (C := RX2) (T := TX2) (N := 14) hx hb hts hinX2 tyX2 tyX2_ok nmX2 hown hK hP (hN.D rfl) hS hA_p0 0 rfl rfl 6 (by decide) (hts (.fieldLink RX2 30 "GreyReel$Picture" "usedBits" "[I") (List.mem_of_getElem? (i := 11) (by decide +kernel))) (fun _ h9 => h9) rfl hini rfl (by decide +kernel) rfl rfl (Nat.le_of_ble_eq_true rfl) dX2_init_58 (fun H locs hP hS => ?_)
  have hP : va_P (dC, dI) vwCl [(p0, .inr (2, [.ref q7, .ref q15, .ref q23, .ref q31, .ref q40, .ref q49, .ref q56, .null, .null, .int 0, .int 0, .int 0, .int 0, .int 0])), (q7, .inl (cI, 12, .inl (fun _ => 0))), (q15, .inl (cI, 12, .inl (fun _ => 0))), (q23, .inl (cI, 12, .inl (fun _ => 0))), (q31, .inl (cI, 12, .inl (fun _ => 0))), (q40, .inl (cI, 768, .inl (fun _ => 0))), (q49, .inl (cI, 768, .inl (fun _ => 0))), (q56, .inl (cI, 3, .inl (fun _ => 0)))] H := hP
  refine lv_aload_n hx hb dX2_init_61 rfl (lv_at hl 0 rfl) ?_
  refine lv_iconst (v := 3) hx hb dX2_init_62 (by decide) ?_
  refine wa_newz (D := (dC, dI)) (N' := 3) hx hb (hts (.arrayClass .boolean) (List.mem_of_getElem? (i := 12) (by decide +kernel))) hK hP hN rfl hS hAs hE.2.2.1 (by decide) (by decide) (by omega) (Nat.le_of_ble_eq_true rfl) (Nat.le_of_ble_eq_true rfl) dX2_init_63 (fun q63 H hge_q63 hP hN hS => ?_)
  have hA_q63 := hAs q63 hge_q63
  have hP : va_P (dC, dI) vwCl [(p0, .inr (2, [.ref q7, .ref q15, .ref q23, .ref q31, .ref q40, .ref q49, .ref q56, .null, .null, .int 0, .int 0, .int 0, .int 0, .int 0])), (q7, .inl (cI, 12, .inl (fun _ => 0))), (q15, .inl (cI, 12, .inl (fun _ => 0))), (q23, .inl (cI, 12, .inl (fun _ => 0))), (q31, .inl (cI, 12, .inl (fun _ => 0))), (q40, .inl (cI, 768, .inl (fun _ => 0))), (q49, .inl (cI, 768, .inl (fun _ => 0))), (q56, .inl (cI, 3, .inl (fun _ => 0))), (q63, .inl (cZ, 3, .inl (fun _ => 0)))] H := hP
  have hN : AD N0 [p0, q7, q15, q23, q31, q40, q49, q56, q63] := hN
  refine wa_putF (D := (dC, dI)) (ci := 2) (v := .ref q63) (ty := (.array .boolean)) (C := RX2) (T := TX2) (N := 14) hx hb hts hinX2 tyX2 tyX2_ok nmX2 hown hK hP (hN.D rfl) hS hA_p0 0 rfl rfl 7 (by decide) (hts (.fieldLink RX2 33 "GreyReel$Picture" "got" "[Z") (List.mem_of_getElem? (i := 13) (by decide +kernel))) (fun _ h9 => h9) rfl hini rfl (by decide +kernel) rfl rfl (Nat.le_of_ble_eq_true rfl) dX2_init_65 (fun H locs hP hS => ?_)
  have hP : va_P (dC, dI) vwCl [(p0, .inr (2, [.ref q7, .ref q15, .ref q23, .ref q31, .ref q40, .ref q49, .ref q56, .ref q63, .null, .int 0, .int 0, .int 0, .int 0, .int 0])), (q7, .inl (cI, 12, .inl (fun _ => 0))), (q15, .inl (cI, 12, .inl (fun _ => 0))), (q23, .inl (cI, 12, .inl (fun _ => 0))), (q31, .inl (cI, 12, .inl (fun _ => 0))), (q40, .inl (cI, 768, .inl (fun _ => 0))), (q49, .inl (cI, 768, .inl (fun _ => 0))), (q56, .inl (cI, 3, .inl (fun _ => 0))), (q63, .inl (cZ, 3, .inl (fun _ => 0)))] H := hP
  refine lv_aload_n hx hb dX2_init_68 rfl (lv_at hl 0 rfl) ?_
  refine lv_iconst (v := 0) hx hb dX2_init_69 (by decide) ?_
  refine wa_newi (D := (dC, dI)) (N' := 0) hx hb (hts (.arrayClass .int) (List.mem_of_getElem? (i := 4) (by decide +kernel))) hK hP hN rfl hS hAs hE.2.2.1 (by decide) (by decide) (by omega) (Nat.le_of_ble_eq_true rfl) (Nat.le_of_ble_eq_true rfl) dX2_init_70 (fun q70 H hge_q70 hP hN hS => ?_)
  have hA_q70 := hAs q70 hge_q70
  have hP : va_P (dC, dI) vwCl [(p0, .inr (2, [.ref q7, .ref q15, .ref q23, .ref q31, .ref q40, .ref q49, .ref q56, .ref q63, .null, .int 0, .int 0, .int 0, .int 0, .int 0])), (q7, .inl (cI, 12, .inl (fun _ => 0))), (q15, .inl (cI, 12, .inl (fun _ => 0))), (q23, .inl (cI, 12, .inl (fun _ => 0))), (q31, .inl (cI, 12, .inl (fun _ => 0))), (q40, .inl (cI, 768, .inl (fun _ => 0))), (q49, .inl (cI, 768, .inl (fun _ => 0))), (q56, .inl (cI, 3, .inl (fun _ => 0))), (q63, .inl (cZ, 3, .inl (fun _ => 0))), (q70, .inl (cI, 0, .inl (fun _ => 0)))] H := hP
  have hN : AD N0 [p0, q7, q15, q23, q31, q40, q49, q56, q63, q70] := hN
  refine wa_put (D := (dC, dI)) (ci := 2) (v := .ref q70) (ty := .array .int) (C := RX2) (T := TX2) (N := 14) hx hb hts hinX2 tyX2 tyX2_ok nmX2 hown hK hP (hN.D rfl) hS hA_p0 0 rfl rfl 8 (by decide) (hts (.fieldLink RX2 37 "GreyReel$Picture" "row" "[I") (List.mem_of_getElem? (i := 14) (by decide +kernel))) (fun _ h9 => h9) rfl (by decide +kernel) rfl rfl (Nat.le_of_ble_eq_true rfl) dX2_init_72 (fun H locs hP hS => ?_)
  have hP : va_P (dC, dI) vwCl [(p0, .inr (2, [.ref q7, .ref q15, .ref q23, .ref q31, .ref q40, .ref q49, .ref q56, .ref q63, .ref q70, .int 0, .int 0, .int 0, .int 0, .int 0])), (q7, .inl (cI, 12, .inl (fun _ => 0))), (q15, .inl (cI, 12, .inl (fun _ => 0))), (q23, .inl (cI, 12, .inl (fun _ => 0))), (q31, .inl (cI, 12, .inl (fun _ => 0))), (q40, .inl (cI, 768, .inl (fun _ => 0))), (q49, .inl (cI, 768, .inl (fun _ => 0))), (q56, .inl (cI, 3, .inl (fun _ => 0))), (q63, .inl (cZ, 3, .inl (fun _ => 0))), (q70, .inl (cI, 0, .inl (fun _ => 0)))] H := hP
  refine lv_aload_n hx hb dX2_init_75 rfl (lv_at hl 0 rfl) ?_
  refine lv_iconst (v := 0) hx hb dX2_init_76 (by decide) ?_
  refine wa_put (D := (dC, dI)) (ci := 2) (v := .int 0) (ty := .int) (C := RX2) (T := TX2) (N := 14) hx hb hts hinX2 tyX2 tyX2_ok nmX2 hown hK hP (hN.D rfl) hS hA_p0 0 rfl rfl 9 (by decide) (hts (.fieldLink RX2 40 "GreyReel$Picture" "number" "I") (List.mem_of_getElem? (i := 15) (by decide +kernel))) (fun _ h9 => h9) rfl (by decide +kernel) rfl rfl (Nat.le_of_ble_eq_true rfl) dX2_init_77 (fun H locs hP hS => ?_)
  have hP : va_P (dC, dI) vwCl [(p0, .inr (2, [.ref q7, .ref q15, .ref q23, .ref q31, .ref q40, .ref q49, .ref q56, .ref q63, .ref q70, .int 0, .int 0, .int 0, .int 0, .int 0])), (q7, .inl (cI, 12, .inl (fun _ => 0))), (q15, .inl (cI, 12, .inl (fun _ => 0))), (q23, .inl (cI, 12, .inl (fun _ => 0))), (q31, .inl (cI, 12, .inl (fun _ => 0))), (q40, .inl (cI, 768, .inl (fun _ => 0))), (q49, .inl (cI, 768, .inl (fun _ => 0))), (q56, .inl (cI, 3, .inl (fun _ => 0))), (q63, .inl (cZ, 3, .inl (fun _ => 0))), (q70, .inl (cI, 0, .inl (fun _ => 0)))] H := hP
  refine lv_aload_n hx hb dX2_init_80 rfl (lv_at hl 0 rfl) ?_
  refine lv_iconst (v := 1) hx hb dX2_init_81 (by decide) ?_
  refine wa_put (D := (dC, dI)) (ci := 2) (v := .int 1) (ty := .int) (C := RX2) (T := TX2) (N := 14) hx hb hts hinX2 tyX2 tyX2_ok nmX2 hown hK hP (hN.D rfl) hS hA_p0 0 rfl rfl 10 (by decide) (hts (.fieldLink RX2 44 "GreyReel$Picture" "q" "I") (List.mem_of_getElem? (i := 16) (by decide +kernel))) (fun _ h9 => h9) rfl (by decide +kernel) rfl rfl (Nat.le_of_ble_eq_true rfl) dX2_init_82 (fun H locs hP hS => ?_)
  have hP : va_P (dC, dI) vwCl [(p0, .inr (2, [.ref q7, .ref q15, .ref q23, .ref q31, .ref q40, .ref q49, .ref q56, .ref q63, .ref q70, .int 0, .int 1, .int 0, .int 0, .int 0])), (q7, .inl (cI, 12, .inl (fun _ => 0))), (q15, .inl (cI, 12, .inl (fun _ => 0))), (q23, .inl (cI, 12, .inl (fun _ => 0))), (q31, .inl (cI, 12, .inl (fun _ => 0))), (q40, .inl (cI, 768, .inl (fun _ => 0))), (q49, .inl (cI, 768, .inl (fun _ => 0))), (q56, .inl (cI, 3, .inl (fun _ => 0))), (q63, .inl (cZ, 3, .inl (fun _ => 0))), (q70, .inl (cI, 0, .inl (fun _ => 0)))] H := hP
  refine lv_aload_n hx hb dX2_init_85 rfl (lv_at hl 0 rfl) ?_
  refine lv_iconst (v := 0) hx hb dX2_init_86 (by decide) ?_
  refine wa_put (D := (dC, dI)) (ci := 2) (v := .int 0) (ty := .int) (C := RX2) (T := TX2) (N := 14) hx hb hts hinX2 tyX2 tyX2_ok nmX2 hown hK hP (hN.D rfl) hS hA_p0 0 rfl rfl 11 (by decide) (hts (.fieldLink RX2 47 "GreyReel$Picture" "error" "I") (List.mem_of_getElem? (i := 17) (by decide +kernel))) (fun _ h9 => h9) rfl (by decide +kernel) rfl rfl (Nat.le_of_ble_eq_true rfl) dX2_init_87 (fun H locs hP hS => ?_)
  have hP : va_P (dC, dI) vwCl [(p0, .inr (2, [.ref q7, .ref q15, .ref q23, .ref q31, .ref q40, .ref q49, .ref q56, .ref q63, .ref q70, .int 0, .int 1, .int 0, .int 0, .int 0])), (q7, .inl (cI, 12, .inl (fun _ => 0))), (q15, .inl (cI, 12, .inl (fun _ => 0))), (q23, .inl (cI, 12, .inl (fun _ => 0))), (q31, .inl (cI, 12, .inl (fun _ => 0))), (q40, .inl (cI, 768, .inl (fun _ => 0))), (q49, .inl (cI, 768, .inl (fun _ => 0))), (q56, .inl (cI, 3, .inl (fun _ => 0))), (q63, .inl (cZ, 3, .inl (fun _ => 0))), (q70, .inl (cI, 0, .inl (fun _ => 0)))] H := hP
  refine lv_aload_n hx hb dX2_init_90 rfl (lv_at hl 0 rfl) ?_
  refine lv_iconst (v := 1) hx hb dX2_init_91 (by decide) ?_
  refine wa_put (D := (dC, dI)) (ci := 2) (v := .int 1) (ty := .boolean) (C := RX2) (T := TX2) (N := 14) hx hb hts hinX2 tyX2 tyX2_ok nmX2 hown hK hP (hN.D rfl) hS hA_p0 0 rfl rfl 12 (by decide) (hts (.fieldLink RX2 50 "GreyReel$Picture" "isKeyPicture" "Z") (List.mem_of_getElem? (i := 18) (by decide +kernel))) (fun _ h9 => h9) rfl (by decide +kernel) (by decide +kernel) rfl (Nat.le_of_ble_eq_true rfl) dX2_init_92 (fun H locs hP hS => ?_)
  have hP : va_P (dC, dI) vwCl [(p0, .inr (2, [.ref q7, .ref q15, .ref q23, .ref q31, .ref q40, .ref q49, .ref q56, .ref q63, .ref q70, .int 0, .int 1, .int 0, .int 1, .int 0])), (q7, .inl (cI, 12, .inl (fun _ => 0))), (q15, .inl (cI, 12, .inl (fun _ => 0))), (q23, .inl (cI, 12, .inl (fun _ => 0))), (q31, .inl (cI, 12, .inl (fun _ => 0))), (q40, .inl (cI, 768, .inl (fun _ => 0))), (q49, .inl (cI, 768, .inl (fun _ => 0))), (q56, .inl (cI, 3, .inl (fun _ => 0))), (q63, .inl (cZ, 3, .inl (fun _ => 0))), (q70, .inl (cI, 0, .inl (fun _ => 0)))] H := hP
  refine lv_aload_n hx hb dX2_init_95 rfl (lv_at hl 0 rfl) ?_
  refine lv_iconst (v := 1) hx hb dX2_init_96 (by decide) ?_
  refine wa_put (D := (dC, dI)) (ci := 2) (v := .int 1) (ty := .boolean) (C := RX2) (T := TX2) (N := 14) hx hb hts hinX2 tyX2 tyX2_ok nmX2 hown hK hP (hN.D rfl) hS hA_p0 0 rfl rfl 13 (by decide) (hts (.fieldLink RX2 54 "GreyReel$Picture" "isSmoothed" "Z") (List.mem_of_getElem? (i := 19) (by decide +kernel))) (fun _ h9 => h9) rfl (by decide +kernel) (by decide +kernel) rfl (Nat.le_of_ble_eq_true rfl) dX2_init_97 (fun H locs hP hS => ?_)
  have hP : va_P (dC, dI) vwCl [(p0, .inr (2, [.ref q7, .ref q15, .ref q23, .ref q31, .ref q40, .ref q49, .ref q56, .ref q63, .ref q70, .int 0, .int 1, .int 0, .int 1, .int 1])), (q7, .inl (cI, 12, .inl (fun _ => 0))), (q15, .inl (cI, 12, .inl (fun _ => 0))), (q23, .inl (cI, 12, .inl (fun _ => 0))), (q31, .inl (cI, 12, .inl (fun _ => 0))), (q40, .inl (cI, 768, .inl (fun _ => 0))), (q49, .inl (cI, 768, .inl (fun _ => 0))), (q56, .inl (cI, 3, .inl (fun _ => 0))), (q63, .inl (cZ, 3, .inl (fun _ => 0))), (q70, .inl (cI, 0, .inl (fun _ => 0)))] H := hP
  refine W.widen (k := 9) (n := 1590) (by omega) (by omega) ?_
  exact W.vret hx hb hr (fun t ht hW => ⟨⟨(q7, q15, q23, q31, q40, q49, q56, q63, q70), rfl, trivial, by show va_P _ _ _ t.heap ∧ _; rw [ht]; exact ⟨hP.sub [0, 1, 2, 3, 4, 5, 6, 7, 8, 9] rfl, hN.sub [1, 2, 3, 4, 5, 6, 7, 8, 9] (by decide) rfl, (al_cons hge_q7 (al_cons hge_q15 (al_cons hge_q23 (al_cons hge_q31 (al_cons hge_q40 (al_cons hge_q49 (al_cons hge_q56 (al_cons hge_q63 (al_cons hge_q70 al_nil)))))))))⟩⟩, hS.F ht⟩) hS.2.2 dX2_init_100
set_option maxHeartbeats 4000000 in
set_option maxRecDepth 100000 in
theorem C_X0_init (l : Launch) (dC : Nat → ClassId) (dI : Nat → Nat → Nat) (cI cZ cP : ClassId) (N0 tO : Nat) (c0 : Nat) (sz : Nat)  : Met l yX0_init wsX0_init ({ frames := 2, cells := 5, slots := 1992, locals := 52 } : Room) (GvA (dC, dI) cI cZ cP N0 tO [.ref c0] (fun H => va_P (dC, dI) vwCl [(c0, .inr (0, [.null, .int 0, .int 0, .int 0, .int 0]))] H ∧ AD N0 [c0] ∧ H.size = sz)) (va_Qv (fun (u : Nat × Nat × Nat × Nat × Nat) => match u with | (h0, hA, hQ, hM, hF) => True) (fun (u : Nat × Nat × Nat × Nat × Nat) (t : State) => match u with | (h0, hA, hQ, hM, hF) => va_P (dC, dI) vwCl [(c0, .inr (0, [.ref h0, .int 2, .int 0, .int 0, .int 0])), (h0, .inr (3, [.ref hA, .ref hQ, .ref hM, .ref hF])), (hA, .inl (cI, 1140, .inl (fun _ => 0))), (hQ, .inl (cI, 16, .inl (fun _ => 0))), (hM, .inl (cI, 768, .inl (fun _ => 0))), (hF, .inl (cI, 64, .inl (fun _ => 0)))] t.heap ∧ AD N0 [h0, hA, hQ, hM, hF] ∧ ∀ a9 ∈ [h0, hA, hQ, hM, hF], sz ≤ a9) (inLN [c0] sz)) 5 1992 (inLN [c0] sz) := by
  refine Met.ofW (cc := cX0_init) (maxL := 1) (ret := none) (by decide) rfl ?_
  intro p e s m args below meth c s₁ B hml hv
  obtain ⟨rfl, ⟨hE, hEX⟩, hP, hN, hsz⟩ := hv
  subst hsz
  have hx := B.exec
  have hb := B.bytes
  have hr := B.returns
  have hts := atoms_spec (ws := wsX0_init) B.pre
  have hown : s.vm.findClass RX0 = some m.cls := findClass_of_methodNamed B.named
  have hlocks := B.notSynchronized
  have hK := hE.1
  have hNS := hE.2.1
  have hS : va_S (inLN [c0] s.heap.size) s.heap s.heap [] := va_S.rf
  have hAN : ∀ q : Nat, (inLN [c0] s.heap.size) q → N0 ≤ q := fun q h => h.elim (fun h => hN.in [0] rfl q h) (fun h => Nat.le_trans hE.2.2.1 h)
  have hAs : ∀ q : Nat, s.heap.size ≤ q → (inLN [c0] s.heap.size) q := fun _ h => Or.inr h
  have hA_c0 : (inLN [c0] s.heap.size) c0 := Or.inl (List.mem_of_getElem? (i := 0) rfl)
  have hini : meth.name = "<init>" := (name_of_methodNamed B.named B.method).1
  have hP : va_P (dC, dI) vwCl [(c0, .inr (0, [.null, .int 0, .int 0, .int 0, .int 0]))] s.heap := hP
  have hinX0 : ∀ w ∈ wsX00, w ∈ wsX0_init := by decide +kernel
  have hinX3 : ∀ w ∈ wsX30, w ∈ wsX0_init := by decide +kernel
  have hl := lv_entry ([.ref c0]) (n := 1) (Nat.le_of_ble_eq_true rfl)
  rw [lg_entry_eq]
  generalize (lg_sl ([.ref c0]) ++ List.replicate (1 - (lg_sl ([.ref c0])).length) Slot.unset).toArray = ls at hl ⊢
  have hl : lv_has ls 1 [(0, .ref c0)] := hl
  refine lv_aload_n hx hb dX0_init_0 rfl (lv_at hl 0 rfl) ?_
  refine W.objInit hx hb hown (hts (.methodLink RX0 3 objectInit) (List.mem_of_getElem? (i := 1) (by decide +kernel))) (hts (.instanceMethod objectInit) (List.mem_of_getElem? (i := 2) (by decide +kernel))) (hts (.code objectInit ⟨#[0xb1]⟩ 1 none) (List.mem_of_getElem? (i := 3) (by decide +kernel))) rfl (by rw [hml]; exact hl.1) rfl dX0_init_1 (Nat.le_of_ble_eq_true rfl) (Nat.le_of_ble_eq_true rfl) ?_
  refine W.eq (g2 := F0 m 4 ls []) rfl ?_
  refine lv_aload_n hx hb dX0_init_4 rfl (lv_at hl 0 rfl) ?_
  refine wa_newo (D := (dC, dI)) (ci := 3) (fs := [.null, .null, .null, .null]) (C := RX3) (T := TX3) (N := 4) hx hb hts hinX3 tyX3 tyX3_ok hown (hts (.classLink RX0 9 RX3) (List.mem_of_getElem? (i := 4) (by decide +kernel))) (hts (.instantiable RX3 4) (List.mem_of_getElem? (i := 5) (by decide +kernel))) (hts (.initialized RX3) (List.mem_of_getElem? (i := 6) (by decide +kernel))) hK hP hN rfl hS hAs hE.2.2.1 rfl (fun j hj => by rcases (show j = 0 ∨ j = 1 ∨ j = 2 ∨ j = 3 by omega) with rfl | rfl | rfl | rfl <;> rfl) (Nat.le_of_ble_eq_true rfl) (Nat.le_of_ble_eq_true rfl) dX0_init_5 (fun q5 H hge_q5 hP hN hS => ?_)
  have hA_q5 := hAs q5 hge_q5
  have hP : va_P (dC, dI) vwCl [(c0, .inr (0, [.null, .int 0, .int 0, .int 0, .int 0])), (q5, .inr (3, [.null, .null, .null, .null]))] H := hP
  have hN : AD N0 [c0, q5] := hN
  refine lv_dup hx hb dX0_init_8 rfl ?_
  refine va_callv (va_runIN (As := []) (rest := [.ref q5, .ref c0]) ⟨hx, hb, hml, hown, hts⟩ (C_X3_init l dC dI cI cZ cP N0 tO q5 H.size ) ⟨va_cnB 0 hts gX0_init_X3_init_n11 rfl rfl rfl hNS.2.1.1 (hts (.initialized RX3) (List.mem_of_getElem? (i := 6) (by decide +kernel))) (by decide +kernel) ⟨Nat.le_of_ble_eq_true rfl, Nat.le_of_ble_eq_true rfl⟩, rfl, (hts (.instanceMethod yX3_init) (List.mem_of_getElem? (i := 12) (by decide +kernel)))⟩ ⟨GvA.blind, GvA.of (hE.S hS hAN) hEX ⟨(hP.sub [1] rfl), hN.sub [1] (by decide) rfl, rfl⟩⟩ rfl rfl hl.1 rfl (lv_room (Nat.le_of_ble_eq_true rfl)) dX0_init_9 ⟨Nat.le_of_ble_eq_true rfl, Nat.le_of_ble_eq_true rfl⟩) hS (fun q _ h => h.elim ((al_cons hA_q5 al_nil) q) (fun h => hAs q (Nat.le_trans hS.1 h))) (fun q h => h.elim ((al_cons hA_q5 al_nil) q) (fun h => hAs q (Nat.le_trans hS.1 h))) (fun u t H locs ht hvm hw hB hz1 hk1 hS2 => ?_)
  obtain ⟨a_2, a_3, a_4, a_5⟩ := u
  obtain ⟨hP9, hN9, hG9⟩ := hB
  rw [ht] at hP9
  have hlt9 := va_P.lt9 hP rfl
  have hPo := va_back (L := [q5]) hP hN rfl [1] rfl rfl (fun q h1 h2 => hk1 q h1 (fun z => z.elim h2 (fun z => absurd z (Nat.not_le.mpr h1)))) (hP9.sub [0] rfl)
  have hP := hPo.app (hP9.sub [1, 2, 3, 4] rfl)
  have hN := hN.appN hlt9 hN9 hG9
  have hge_a_2 := Nat.le_trans hS.1 (hG9 a_2 (List.mem_of_getElem? (i := 0) rfl))
  have hA_a_2 := hAs a_2 hge_a_2
  have hge_a_3 := Nat.le_trans hS.1 (hG9 a_3 (List.mem_of_getElem? (i := 1) rfl))
  have hA_a_3 := hAs a_3 hge_a_3
  have hge_a_4 := Nat.le_trans hS.1 (hG9 a_4 (List.mem_of_getElem? (i := 2) rfl))
  have hA_a_4 := hAs a_4 hge_a_4
  have hge_a_5 := Nat.le_trans hS.1 (hG9 a_5 (List.mem_of_getElem? (i := 3) rfl))
  have hA_a_5 := hAs a_5 hge_a_5
  have hS := hS2
  clear hPo hP9 hN9 hG9 hlt9 hk1 hz1 hvm ht t
  have hP : va_P (dC, dI) vwCl [(c0, .inr (0, [.null, .int 0, .int 0, .int 0, .int 0])), (q5, .inr (3, [.ref a_2, .ref a_3, .ref a_4, .ref a_5])), (a_2, .inl (cI, 1140, .inl (fun _ => 0))), (a_3, .inl (cI, 16, .inl (fun _ => 0))), (a_4, .inl (cI, 768, .inl (fun _ => 0))), (a_5, .inl (cI, 64, .inl (fun _ => 0)))] H := hP
  have hN : AD N0 [c0, q5, a_2, a_3, a_4, a_5] := hN
  have hw : True := hw
  have hwr_1 := hw
  refine wa_putF (D := (dC, dI)) (ci := 0) (v := .ref q5) (ty := .object "GreyReel$Studio") (C := RX0) (T := TX0) (N := 5) hx hb hts hinX0 tyX0 tyX0_ok nmX0 hown hK hP (hN.D rfl) hS hA_c0 0 rfl rfl 0 (by decide) (hts (.fieldLink RX0 12 "GreyReel$Coder" "studio" "LGreyReel$Studio;") (List.mem_of_getElem? (i := 7) (by decide +kernel))) (fun _ h9 => h9) rfl hini rfl (by decide +kernel) rfl rfl (Nat.le_of_ble_eq_true rfl) dX0_init_12 (fun H locs hP hS => ?_)
  have hP : va_P (dC, dI) vwCl [(c0, .inr (0, [.ref q5, .int 0, .int 0, .int 0, .int 0])), (q5, .inr (3, [.ref a_2, .ref a_3, .ref a_4, .ref a_5])), (a_2, .inl (cI, 1140, .inl (fun _ => 0))), (a_3, .inl (cI, 16, .inl (fun _ => 0))), (a_4, .inl (cI, 768, .inl (fun _ => 0))), (a_5, .inl (cI, 64, .inl (fun _ => 0)))] H := hP
  refine lv_aload_n hx hb dX0_init_15 rfl (lv_at hl 0 rfl) ?_
  refine lv_iconst (v := 2) hx hb dX0_init_16 (by decide) ?_
  refine wa_put (D := (dC, dI)) (ci := 0) (v := .int 2) (ty := .int) (C := RX0) (T := TX0) (N := 5) hx hb hts hinX0 tyX0 tyX0_ok nmX0 hown hK hP (hN.D rfl) hS hA_c0 0 rfl rfl 1 (by decide) (hts (.fieldLink RX0 18 "GreyReel$Coder" "bestKind" "I") (List.mem_of_getElem? (i := 8) (by decide +kernel))) (fun _ h9 => h9) rfl (by decide +kernel) rfl rfl (Nat.le_of_ble_eq_true rfl) dX0_init_17 (fun H locs hP hS => ?_)
  have hP : va_P (dC, dI) vwCl [(c0, .inr (0, [.ref q5, .int 2, .int 0, .int 0, .int 0])), (q5, .inr (3, [.ref a_2, .ref a_3, .ref a_4, .ref a_5])), (a_2, .inl (cI, 1140, .inl (fun _ => 0))), (a_3, .inl (cI, 16, .inl (fun _ => 0))), (a_4, .inl (cI, 768, .inl (fun _ => 0))), (a_5, .inl (cI, 64, .inl (fun _ => 0)))] H := hP
  refine lv_aload_n hx hb dX0_init_20 rfl (lv_at hl 0 rfl) ?_
  refine lv_iconst (v := 0) hx hb dX0_init_21 (by decide) ?_
  refine wa_put (D := (dC, dI)) (ci := 0) (v := .int 0) (ty := .int) (C := RX0) (T := TX0) (N := 5) hx hb hts hinX0 tyX0 tyX0_ok nmX0 hown hK hP (hN.D rfl) hS hA_c0 0 rfl rfl 2 (by decide) (hts (.fieldLink RX0 22 "GreyReel$Coder" "bestX" "I") (List.mem_of_getElem? (i := 9) (by decide +kernel))) (fun _ h9 => h9) rfl (by decide +kernel) rfl rfl (Nat.le_of_ble_eq_true rfl) dX0_init_22 (fun H locs hP hS => ?_)
  have hP : va_P (dC, dI) vwCl [(c0, .inr (0, [.ref q5, .int 2, .int 0, .int 0, .int 0])), (q5, .inr (3, [.ref a_2, .ref a_3, .ref a_4, .ref a_5])), (a_2, .inl (cI, 1140, .inl (fun _ => 0))), (a_3, .inl (cI, 16, .inl (fun _ => 0))), (a_4, .inl (cI, 768, .inl (fun _ => 0))), (a_5, .inl (cI, 64, .inl (fun _ => 0)))] H := hP
  refine lv_aload_n hx hb dX0_init_25 rfl (lv_at hl 0 rfl) ?_
  refine lv_iconst (v := 0) hx hb dX0_init_26 (by decide) ?_
  refine wa_put (D := (dC, dI)) (ci := 0) (v := .int 0) (ty := .int) (C := RX0) (T := TX0) (N := 5) hx hb hts hinX0 tyX0 tyX0_ok nmX0 hown hK hP (hN.D rfl) hS hA_c0 0 rfl rfl 3 (by decide) (hts (.fieldLink RX0 25 "GreyReel$Coder" "bestY" "I") (List.mem_of_getElem? (i := 10) (by decide +kernel))) (fun _ h9 => h9) rfl (by decide +kernel) rfl rfl (Nat.le_of_ble_eq_true rfl) dX0_init_27 (fun H locs hP hS => ?_)
  have hP : va_P (dC, dI) vwCl [(c0, .inr (0, [.ref q5, .int 2, .int 0, .int 0, .int 0])), (q5, .inr (3, [.ref a_2, .ref a_3, .ref a_4, .ref a_5])), (a_2, .inl (cI, 1140, .inl (fun _ => 0))), (a_3, .inl (cI, 16, .inl (fun _ => 0))), (a_4, .inl (cI, 768, .inl (fun _ => 0))), (a_5, .inl (cI, 64, .inl (fun _ => 0)))] H := hP
  refine lv_aload_n hx hb dX0_init_30 rfl (lv_at hl 0 rfl) ?_
  refine lv_iconst (v := 0) hx hb dX0_init_31 (by decide) ?_
  refine wa_put (D := (dC, dI)) (ci := 0) (v := .int 0) (ty := .int) (C := RX0) (T := TX0) (N := 5) hx hb hts hinX0 tyX0 tyX0_ok nmX0 hown hK hP (hN.D rfl) hS hA_c0 0 rfl rfl 4 (by decide) (hts (.fieldLink RX0 28 "GreyReel$Coder" "bestPrice" "I") (List.mem_of_getElem? (i := 11) (by decide +kernel))) (fun _ h9 => h9) rfl (by decide +kernel) rfl rfl (Nat.le_of_ble_eq_true rfl) dX0_init_32 (fun H locs hP hS => ?_)
  have hP : va_P (dC, dI) vwCl [(c0, .inr (0, [.ref q5, .int 2, .int 0, .int 0, .int 0])), (q5, .inr (3, [.ref a_2, .ref a_3, .ref a_4, .ref a_5])), (a_2, .inl (cI, 1140, .inl (fun _ => 0))), (a_3, .inl (cI, 16, .inl (fun _ => 0))), (a_4, .inl (cI, 768, .inl (fun _ => 0))), (a_5, .inl (cI, 64, .inl (fun _ => 0)))] H := hP
  refine W.widen (k := 5) (n := 1992) (by omega) (by omega) ?_
  exact W.vret hx hb hr (fun t ht hW => ⟨⟨(q5, a_2, a_3, a_4, a_5), rfl, trivial, by show va_P _ _ _ t.heap ∧ _; rw [ht]; exact ⟨hP.sub [0, 1, 2, 3, 4, 5] rfl, hN.sub [1, 2, 3, 4, 5] (by decide) rfl, (al_cons hge_q5 (al_cons hge_a_2 (al_cons hge_a_3 (al_cons hge_a_4 (al_cons hge_a_5 al_nil)))))⟩⟩, hS.F ht⟩) hS.2.2 dX0_init_35
set_option maxHeartbeats 4000000 in
set_option maxRecDepth 100000 in
theorem C_X4_init (l : Launch) (dC : Nat → ClassId) (dI : Nat → Nat → Nat) (cI cZ cP : ClassId) (N0 tO : Nat) (v0 : Nat) (sz : Nat)  : Met l yX4_init wsX4_init ({ frames := 2, cells := 6, slots := 2760, locals := 52 } : Room) (GvA (dC, dI) cI cZ cP N0 tO [.ref v0] (fun H => va_P (dC, dI) vwCl [(v0, .inr (4, [.null, .null, .int 0]))] H ∧ AD N0 [v0] ∧ H.size = sz)) (va_Qv (fun (u : Nat × Nat × Nat × Nat × Nat × Nat) => match u with | (h0, hA, hQ, hM, hF, sc) => True) (fun (u : Nat × Nat × Nat × Nat × Nat × Nat) (t : State) => match u with | (h0, hA, hQ, hM, hF, sc) => va_P (dC, dI) vwCl [(v0, .inr (4, [.ref h0, .ref sc, .int 0])), (h0, .inr (3, [.ref hA, .ref hQ, .ref hM, .ref hF])), (hA, .inl (cI, 1140, .inl (fun _ => 0))), (hQ, .inl (cI, 16, .inl (fun _ => 0))), (hM, .inl (cI, 768, .inl (fun _ => 0))), (hF, .inl (cI, 64, .inl (fun _ => 0))), (sc, .inl (cI, 768, .inl (fun _ => 128)))] t.heap ∧ AD N0 [h0, hA, hQ, hM, hF, sc] ∧ ∀ a9 ∈ [h0, hA, hQ, hM, hF, sc], sz ≤ a9) (inLN [v0] sz)) 6 2760 (inLN [v0] sz) := by
  refine Met.ofW (cc := cX4_init) (maxL := 1) (ret := none) (by decide) rfl ?_
  intro p e s m args below meth c s₁ B hml hv
  obtain ⟨rfl, ⟨hE, hEX⟩, hP, hN, hsz⟩ := hv
  subst hsz
  have hx := B.exec
  have hb := B.bytes
  have hr := B.returns
  have hts := atoms_spec (ws := wsX4_init) B.pre
  have hown : s.vm.findClass RX4 = some m.cls := findClass_of_methodNamed B.named
  have hlocks := B.notSynchronized
  have hK := hE.1
  have hNS := hE.2.1
  have hS : va_S (inLN [v0] s.heap.size) s.heap s.heap [] := va_S.rf
  have hAN : ∀ q : Nat, (inLN [v0] s.heap.size) q → N0 ≤ q := fun q h => h.elim (fun h => hN.in [0] rfl q h) (fun h => Nat.le_trans hE.2.2.1 h)
  have hAs : ∀ q : Nat, s.heap.size ≤ q → (inLN [v0] s.heap.size) q := fun _ h => Or.inr h
  have hA_v0 : (inLN [v0] s.heap.size) v0 := Or.inl (List.mem_of_getElem? (i := 0) rfl)
  have hini : meth.name = "<init>" := (name_of_methodNamed B.named B.method).1
  have hP : va_P (dC, dI) vwCl [(v0, .inr (4, [.null, .null, .int 0]))] s.heap := hP
  have hinX3 : ∀ w ∈ wsX30, w ∈ wsX4_init := by decide +kernel
  have hinX4 : ∀ w ∈ wsX40, w ∈ wsX4_init := by decide +kernel
  have hl := lv_entry ([.ref v0]) (n := 1) (Nat.le_of_ble_eq_true rfl)
  rw [lg_entry_eq]
  generalize (lg_sl ([.ref v0]) ++ List.replicate (1 - (lg_sl ([.ref v0])).length) Slot.unset).toArray = ls at hl ⊢
  have hl : lv_has ls 1 [(0, .ref v0)] := hl
  refine lv_aload_n hx hb dX4_init_0 rfl (lv_at hl 0 rfl) ?_
  refine W.objInit hx hb hown (hts (.methodLink RX4 3 objectInit) (List.mem_of_getElem? (i := 1) (by decide +kernel))) (hts (.instanceMethod objectInit) (List.mem_of_getElem? (i := 2) (by decide +kernel))) (hts (.code objectInit ⟨#[0xb1]⟩ 1 none) (List.mem_of_getElem? (i := 3) (by decide +kernel))) rfl (by rw [hml]; exact hl.1) rfl dX4_init_1 (Nat.le_of_ble_eq_true rfl) (Nat.le_of_ble_eq_true rfl) ?_
  refine W.eq (g2 := F0 m 4 ls []) rfl ?_
  refine lv_aload_n hx hb dX4_init_4 rfl (lv_at hl 0 rfl) ?_
  refine wa_newo (D := (dC, dI)) (ci := 3) (fs := [.null, .null, .null, .null]) (C := RX3) (T := TX3) (N := 4) hx hb hts hinX3 tyX3 tyX3_ok hown (hts (.classLink RX4 9 RX3) (List.mem_of_getElem? (i := 4) (by decide +kernel))) (hts (.instantiable RX3 4) (List.mem_of_getElem? (i := 5) (by decide +kernel))) (hts (.initialized RX3) (List.mem_of_getElem? (i := 6) (by decide +kernel))) hK hP hN rfl hS hAs hE.2.2.1 rfl (fun j hj => by rcases (show j = 0 ∨ j = 1 ∨ j = 2 ∨ j = 3 by omega) with rfl | rfl | rfl | rfl <;> rfl) (Nat.le_of_ble_eq_true rfl) (Nat.le_of_ble_eq_true rfl) dX4_init_5 (fun q5 H hge_q5 hP hN hS => ?_)
  have hA_q5 := hAs q5 hge_q5
  have hP : va_P (dC, dI) vwCl [(v0, .inr (4, [.null, .null, .int 0])), (q5, .inr (3, [.null, .null, .null, .null]))] H := hP
  have hN : AD N0 [v0, q5] := hN
  refine lv_dup hx hb dX4_init_8 rfl ?_
  refine va_callv (va_runIN (As := []) (rest := [.ref q5, .ref v0]) ⟨hx, hb, hml, hown, hts⟩ (C_X3_init l dC dI cI cZ cP N0 tO q5 H.size ) ⟨va_cnB 0 hts gX4_init_X3_init_n11 rfl rfl rfl hNS.2.2.2.2.2 (hts (.initialized RX3) (List.mem_of_getElem? (i := 6) (by decide +kernel))) (by decide +kernel) ⟨Nat.le_of_ble_eq_true rfl, Nat.le_of_ble_eq_true rfl⟩, rfl, (hts (.instanceMethod yX3_init) (List.mem_of_getElem? (i := 11) (by decide +kernel)))⟩ ⟨GvA.blind, GvA.of (hE.S hS hAN) hEX ⟨(hP.sub [1] rfl), hN.sub [1] (by decide) rfl, rfl⟩⟩ rfl rfl hl.1 rfl (lv_room (Nat.le_of_ble_eq_true rfl)) dX4_init_9 ⟨Nat.le_of_ble_eq_true rfl, Nat.le_of_ble_eq_true rfl⟩) hS (fun q _ h => h.elim ((al_cons hA_q5 al_nil) q) (fun h => hAs q (Nat.le_trans hS.1 h))) (fun q h => h.elim ((al_cons hA_q5 al_nil) q) (fun h => hAs q (Nat.le_trans hS.1 h))) (fun u t H locs ht hvm hw hB hz1 hk1 hS2 => ?_)
  obtain ⟨a_2, a_3, a_4, a_5⟩ := u
  obtain ⟨hP9, hN9, hG9⟩ := hB
  rw [ht] at hP9
  have hlt9 := va_P.lt9 hP rfl
  have hPo := va_back (L := [q5]) hP hN rfl [1] rfl rfl (fun q h1 h2 => hk1 q h1 (fun z => z.elim h2 (fun z => absurd z (Nat.not_le.mpr h1)))) (hP9.sub [0] rfl)
  have hP := hPo.app (hP9.sub [1, 2, 3, 4] rfl)
  have hN := hN.appN hlt9 hN9 hG9
  have hge_a_2 := Nat.le_trans hS.1 (hG9 a_2 (List.mem_of_getElem? (i := 0) rfl))
  have hA_a_2 := hAs a_2 hge_a_2
  have hge_a_3 := Nat.le_trans hS.1 (hG9 a_3 (List.mem_of_getElem? (i := 1) rfl))
  have hA_a_3 := hAs a_3 hge_a_3
  have hge_a_4 := Nat.le_trans hS.1 (hG9 a_4 (List.mem_of_getElem? (i := 2) rfl))
  have hA_a_4 := hAs a_4 hge_a_4
  have hge_a_5 := Nat.le_trans hS.1 (hG9 a_5 (List.mem_of_getElem? (i := 3) rfl))
  have hA_a_5 := hAs a_5 hge_a_5
  have hS := hS2
  clear hPo hP9 hN9 hG9 hlt9 hk1 hz1 hvm ht t
  have hP : va_P (dC, dI) vwCl [(v0, .inr (4, [.null, .null, .int 0])), (q5, .inr (3, [.ref a_2, .ref a_3, .ref a_4, .ref a_5])), (a_2, .inl (cI, 1140, .inl (fun _ => 0))), (a_3, .inl (cI, 16, .inl (fun _ => 0))), (a_4, .inl (cI, 768, .inl (fun _ => 0))), (a_5, .inl (cI, 64, .inl (fun _ => 0)))] H := hP
  have hN : AD N0 [v0, q5, a_2, a_3, a_4, a_5] := hN
  have hw : True := hw
  have hwr_1 := hw
  refine wa_putF (D := (dC, dI)) (ci := 4) (v := .ref q5) (ty := .object "GreyReel$Studio") (C := RX4) (T := TX4) (N := 3) hx hb hts hinX4 tyX4 tyX4_ok nmX4 hown hK hP (hN.D rfl) hS hA_v0 0 rfl rfl 0 (by decide) (hts (.fieldLink RX4 12 "GreyReel$Viewer" "studio" "LGreyReel$Studio;") (List.mem_of_getElem? (i := 7) (by decide +kernel))) (fun _ h9 => h9) rfl hini rfl (by decide +kernel) rfl rfl (Nat.le_of_ble_eq_true rfl) dX4_init_12 (fun H locs hP hS => ?_)
  have hP : va_P (dC, dI) vwCl [(v0, .inr (4, [.ref q5, .null, .int 0])), (q5, .inr (3, [.ref a_2, .ref a_3, .ref a_4, .ref a_5])), (a_2, .inl (cI, 1140, .inl (fun _ => 0))), (a_3, .inl (cI, 16, .inl (fun _ => 0))), (a_4, .inl (cI, 768, .inl (fun _ => 0))), (a_5, .inl (cI, 64, .inl (fun _ => 0)))] H := hP
  refine lv_aload_n hx hb dX4_init_15 rfl (lv_at hl 0 rfl) ?_
  refine lv_sipush (v := 768) hx hb dX4_init_16 (by decide +kernel) ?_
  refine wa_newi (D := (dC, dI)) (N' := 768) hx hb (hts (.arrayClass .int) (List.mem_of_getElem? (i := 8) (by decide +kernel))) hK hP hN rfl hS hAs hE.2.2.1 (by decide) (by decide) (by omega) (Nat.le_of_ble_eq_true rfl) (Nat.le_of_ble_eq_true rfl) dX4_init_19 (fun q19 H hge_q19 hP hN hS => ?_)
  have hA_q19 := hAs q19 hge_q19
  have hP : va_P (dC, dI) vwCl [(v0, .inr (4, [.ref q5, .null, .int 0])), (q5, .inr (3, [.ref a_2, .ref a_3, .ref a_4, .ref a_5])), (a_2, .inl (cI, 1140, .inl (fun _ => 0))), (a_3, .inl (cI, 16, .inl (fun _ => 0))), (a_4, .inl (cI, 768, .inl (fun _ => 0))), (a_5, .inl (cI, 64, .inl (fun _ => 0))), (q19, .inl (cI, 768, .inl (fun _ => 0)))] H := hP
  have hN : AD N0 [v0, q5, a_2, a_3, a_4, a_5, q19] := hN
  refine wa_putF (D := (dC, dI)) (ci := 4) (v := .ref q19) (ty := .array .int) (C := RX4) (T := TX4) (N := 3) hx hb hts hinX4 tyX4 tyX4_ok nmX4 hown hK hP (hN.D rfl) hS hA_v0 0 rfl rfl 1 (by decide) (hts (.fieldLink RX4 18 "GreyReel$Viewer" "screen" "[I") (List.mem_of_getElem? (i := 9) (by decide +kernel))) (fun _ h9 => h9) rfl hini rfl (by decide +kernel) rfl rfl (Nat.le_of_ble_eq_true rfl) dX4_init_21 (fun H locs hP hS => ?_)
  have hP : va_P (dC, dI) vwCl [(v0, .inr (4, [.ref q5, .ref q19, .int 0])), (q5, .inr (3, [.ref a_2, .ref a_3, .ref a_4, .ref a_5])), (a_2, .inl (cI, 1140, .inl (fun _ => 0))), (a_3, .inl (cI, 16, .inl (fun _ => 0))), (a_4, .inl (cI, 768, .inl (fun _ => 0))), (a_5, .inl (cI, 64, .inl (fun _ => 0))), (q19, .inl (cI, 768, .inl (fun _ => 0)))] H := hP
  refine lv_aload_n hx hb dX4_init_24 rfl (lv_at hl 0 rfl) ?_
  refine lv_iconst (v := 0) hx hb dX4_init_25 (by decide) ?_
  refine wa_put (D := (dC, dI)) (ci := 4) (v := .int 0) (ty := .int) (C := RX4) (T := TX4) (N := 3) hx hb hts hinX4 tyX4 tyX4_ok nmX4 hown hK hP (hN.D rfl) hS hA_v0 0 rfl rfl 2 (by decide) (hts (.fieldLink RX4 22 "GreyReel$Viewer" "shownPictures" "I") (List.mem_of_getElem? (i := 10) (by decide +kernel))) (fun _ h9 => h9) rfl (by decide +kernel) rfl rfl (Nat.le_of_ble_eq_true rfl) dX4_init_26 (fun H locs hP hS => ?_)
  have hP : va_P (dC, dI) vwCl [(v0, .inr (4, [.ref q5, .ref q19, .int 0])), (q5, .inr (3, [.ref a_2, .ref a_3, .ref a_4, .ref a_5])), (a_2, .inl (cI, 1140, .inl (fun _ => 0))), (a_3, .inl (cI, 16, .inl (fun _ => 0))), (a_4, .inl (cI, 768, .inl (fun _ => 0))), (a_5, .inl (cI, 64, .inl (fun _ => 0))), (q19, .inl (cI, 768, .inl (fun _ => 0)))] H := hP
  refine lv_aload_n hx hb dX4_init_29 rfl (lv_at hl 0 rfl) ?_
  refine va_get (D := (dC, dI)) (ci := 4) (v := .ref q19) (C := RX4) (T := TX4) (N := 3) hx hb hts hinX4 hown hK hP 0 rfl rfl 1 (by decide) (hts (.fieldLink RX4 18 "GreyReel$Viewer" "screen" "[I") (List.mem_of_getElem? (i := 9) (by decide +kernel))) (fun _ h9 => h9) rfl dX4_init_30 ?_
  refine lv_sipush (v := 128) hx hb dX4_init_33 (by decide +kernel) ?_
  refine va_callv (va_runS (As := [.ref q19, .int 128]) (rest := []) ⟨hx, hb, hml, hown, hts⟩ (C_J7_fill_53178 l dC dI cI cZ cP N0 tO q19 768 (fun _ => 0) 128 (by decide)) (va_cwS 2 hts gX4_init_J7_fill_53178 rfl rfl rfl (by decide +kernel) ⟨Nat.le_of_ble_eq_true rfl, Nat.le_of_ble_eq_true rfl⟩) ⟨Gv.blind, Gv.of (hE.S hS hAN) ⟨(hP.sub [6] rfl), hN.sub [6] (by decide) rfl⟩⟩ rfl rfl hl.1 rfl (lv_room (Nat.le_of_ble_eq_true rfl)) dX4_init_36 ⟨Nat.le_of_ble_eq_true rfl, Nat.le_of_ble_eq_true rfl⟩) hS (fun q _ h => (al_cons hA_q19 al_nil) q h) (al_cons hA_q19 al_nil) (fun u t H locs ht hvm hw hB hz1 hk1 hS => ?_)
  rw [ht] at hB
  have hP := va_back (L := [q19]) hP hN rfl [6] rfl rfl (fun q h1 h2 => hk1 q h1 h2) hB
  clear hB hk1 hz1 hvm ht t
  have hP : va_P (dC, dI) vwCl [(v0, .inr (4, [.ref q5, .ref q19, .int 0])), (q5, .inr (3, [.ref a_2, .ref a_3, .ref a_4, .ref a_5])), (a_2, .inl (cI, 1140, .inl (fun _ => 0))), (a_3, .inl (cI, 16, .inl (fun _ => 0))), (a_4, .inl (cI, 768, .inl (fun _ => 0))), (a_5, .inl (cI, 64, .inl (fun _ => 0))), (q19, .inl (cI, 768, .inl (fun _ => 128)))] H := hP
  have hw : True := hw
  have hwr_6 := hw
  refine W.widen (k := 6) (n := 2760) (by omega) (by omega) ?_
  exact W.vret hx hb hr (fun t ht hW => ⟨⟨(q5, a_2, a_3, a_4, a_5, q19), rfl, trivial, by show va_P _ _ _ t.heap ∧ _; rw [ht]; exact ⟨hP.sub [0, 1, 2, 3, 4, 5, 6] rfl, hN.sub [1, 2, 3, 4, 5, 6] (by decide) rfl, (al_cons hge_q5 (al_cons hge_a_2 (al_cons hge_a_3 (al_cons hge_a_4 (al_cons hge_a_5 (al_cons hge_q19 al_nil))))))⟩⟩, hS.F ht⟩) hS.2.2 dX4_init_39
set_option maxHeartbeats 16000000 in
set_option maxRecDepth 100000 in
theorem C_X5_init (l : Launch) (dC : Nat → ClassId) (dI : Nat → Nat → Nat) (cI cZ cP : ClassId) (N0 tO : Nat) (g0 : Nat) (sz : Nat)  : Met l yX5_init wsX5_init ({ frames := 3, cells := 30, slots := 10423, locals := 72 } : Room) (GvA (dC, dI) cI cZ cP N0 tO [.ref g0] (fun H => va_P (dC, dI) vwCl [(g0, .inr (5, [.null, .null, .null, .null, .null, .null, .null, .int 0, .int 0, .int 0, .int 0, .int 0, .int 0, .int 0]))] H ∧ AD N0 [g0] ∧ H.size = sz)) (va_Qv (fun (u : Nat × Nat × Nat × Nat × Nat × Nat × Nat × Nat × Nat × Nat × Nat × Nat × Nat × Nat × Nat × Nat × Nat × Nat × Nat × Nat × Nat × Nat × Nat × Nat × Nat × Nat × Nat × Nat × Nat × Nat) => match u with | (gC, gR, c0, h0, hA, hQ, hM, hF, w0, wR, wK, wM, v0, k0, kA, kQ, kM, kF, sc, gB, p0, pK, pX, pY, pC, pV, pR, pU, pG, pW) => True) (fun (u : Nat × Nat × Nat × Nat × Nat × Nat × Nat × Nat × Nat × Nat × Nat × Nat × Nat × Nat × Nat × Nat × Nat × Nat × Nat × Nat × Nat × Nat × Nat × Nat × Nat × Nat × Nat × Nat × Nat × Nat) (t : State) => match u with | (gC, gR, c0, h0, hA, hQ, hM, hF, w0, wR, wK, wM, v0, k0, kA, kQ, kM, kF, sc, gB, p0, pK, pX, pY, pC, pV, pR, pU, pG, pW) => va_P (dC, dI) vwCl [(g0, .inr (5, [.ref gC, .ref gR, .ref c0, .ref w0, .ref v0, .ref gB, .ref p0, .int 0, .int 0, .int 8, .int 0, .int 12, .int 1, .int 0])), (gC, .inl (cI, 768, .inl (fun _ => 0))), (gR, .inl (cP, 24, .inr (.inr (.inr (.inr (fun _ => none)))))), (c0, .inr (0, [.ref h0, .int 2, .int 0, .int 0, .int 0])), (h0, .inr (3, [.ref hA, .ref hQ, .ref hM, .ref hF])), (hA, .inl (cI, 1140, .inl (fun _ => 0))), (hQ, .inl (cI, 16, .inl (fun _ => 0))), (hM, .inl (cI, 768, .inl (fun _ => 0))), (hF, .inl (cI, 64, .inl (fun _ => 0))), (w0, .inr (1, [.ref wR, .ref wK, .ref wM, .int 0])), (wR, .inl (cI, 2487, .inl (fun _ => 0))), (wK, .inl (cI, 5, .inl (fun _ => 0))), (wM, .inl (cI, 3, .inl (fun _ => 0))), (v0, .inr (4, [.ref k0, .ref sc, .int 0])), (k0, .inr (3, [.ref kA, .ref kQ, .ref kM, .ref kF])), (kA, .inl (cI, 1140, .inl (fun _ => 0))), (kQ, .inl (cI, 16, .inl (fun _ => 0))), (kM, .inl (cI, 768, .inl (fun _ => 0))), (kF, .inl (cI, 64, .inl (fun _ => 0))), (sc, .inl (cI, 768, .inl (fun _ => 128))), (gB, .inl (cI, 768, .inl (fun _ => 0))), (p0, .inr (2, [.ref pK, .ref pX, .ref pY, .ref pC, .ref pV, .ref pR, .ref pU, .ref pG, .ref pW, .int 0, .int 1, .int 0, .int 1, .int 1])), (pK, .inl (cI, 12, .inl (fun _ => 0))), (pX, .inl (cI, 12, .inl (fun _ => 0))), (pY, .inl (cI, 12, .inl (fun _ => 0))), (pC, .inl (cI, 12, .inl (fun _ => 0))), (pV, .inl (cI, 768, .inl (fun _ => 0))), (pR, .inl (cI, 768, .inl (fun _ => 0))), (pU, .inl (cI, 3, .inl (fun _ => 0))), (pG, .inl (cZ, 3, .inl (fun _ => 0))), (pW, .inl (cI, 0, .inl (fun _ => 0)))] t.heap ∧ AD N0 [gC, gR, c0, h0, hA, hQ, hM, hF, w0, wR, wK, wM, v0, k0, kA, kQ, kM, kF, sc, gB, p0, pK, pX, pY, pC, pV, pR, pU, pG, pW] ∧ ∀ a9 ∈ [gC, gR, c0, h0, hA, hQ, hM, hF, w0, wR, wK, wM, v0, k0, kA, kQ, kM, kF, sc, gB, p0, pK, pX, pY, pC, pV, pR, pU, pG, pW], sz ≤ a9) (inLN [g0] sz)) 30 10423 (inLN [g0] sz) := by
  refine Met.ofW (cc := cX5_init) (maxL := 1) (ret := none) (by decide) rfl ?_
  intro p e s m args below meth c s₁ B hml hv
  obtain ⟨rfl, ⟨hE, hEX⟩, hP, hN, hsz⟩ := hv
  subst hsz
  have hx := B.exec
  have hb := B.bytes
  have hr := B.returns
  have hts := atoms_spec (ws := wsX5_init) B.pre
  have hown : s.vm.findClass RX5 = some m.cls := findClass_of_methodNamed B.named
  have hlocks := B.notSynchronized
  have hK := hE.1
  have hNS := hE.2.1
  have hS : va_S (inLN [g0] s.heap.size) s.heap s.heap [] := va_S.rf
  have hAN : ∀ q : Nat, (inLN [g0] s.heap.size) q → N0 ≤ q := fun q h => h.elim (fun h => hN.in [0] rfl q h) (fun h => Nat.le_trans hE.2.2.1 h)
  have hAs : ∀ q : Nat, s.heap.size ≤ q → (inLN [g0] s.heap.size) q := fun _ h => Or.inr h
  have hA_g0 : (inLN [g0] s.heap.size) g0 := Or.inl (List.mem_of_getElem? (i := 0) rfl)
  have hini : meth.name = "<init>" := (name_of_methodNamed B.named B.method).1
  have hP : va_P (dC, dI) vwCl [(g0, .inr (5, [.null, .null, .null, .null, .null, .null, .null, .int 0, .int 0, .int 0, .int 0, .int 0, .int 0, .int 0]))] s.heap := hP
  have hinX0 : ∀ w ∈ wsX00, w ∈ wsX5_init := by decide +kernel
  have hinX1 : ∀ w ∈ wsX10, w ∈ wsX5_init := by decide +kernel
  have hinX2 : ∀ w ∈ wsX20, w ∈ wsX5_init := by decide +kernel
  have hinX4 : ∀ w ∈ wsX40, w ∈ wsX5_init := by decide +kernel
  have hinX5 : ∀ w ∈ wsX50, w ∈ wsX5_init := by decide +kernel
  have hl := lv_entry ([.ref g0]) (n := 1) (Nat.le_of_ble_eq_true rfl)
  rw [lg_entry_eq]
  generalize (lg_sl ([.ref g0]) ++ List.replicate (1 - (lg_sl ([.ref g0])).length) Slot.unset).toArray = ls at hl ⊢
  have hl : lv_has ls 1 [(0, .ref g0)] := hl
  refine lv_aload_n hx hb dX5_init_0 rfl (lv_at hl 0 rfl) ?_
  refine W.objInit hx hb hown (hts (.methodLink RX5 3 objectInit) (List.mem_of_getElem? (i := 1) (by decide +kernel))) (hts (.instanceMethod objectInit) (List.mem_of_getElem? (i := 2) (by decide +kernel))) (hts (.code objectInit ⟨#[0xb1]⟩ 1 none) (List.mem_of_getElem? (i := 3) (by decide +kernel))) rfl (by rw [hml]; exact hl.1) rfl dX5_init_1 (Nat.le_of_ble_eq_true rfl) (Nat.le_of_ble_eq_true rfl) ?_
  refine W.eq (g2 := F0 m 4 ls []) rfl ?_
  refine lv_aload_n hx hb dX5_init_4 rfl (lv_at hl 0 rfl) ?_
  refine lv_sipush (v := 768) hx hb dX5_init_5 (by decide +kernel) ?_
  refine wa_newi (D := (dC, dI)) (N' := 768) hx hb (hts (.arrayClass .int) (List.mem_of_getElem? (i := 4) (by decide +kernel))) hK hP hN rfl hS hAs hE.2.2.1 (by decide) (by decide) (by omega) (Nat.le_of_ble_eq_true rfl) (Nat.le_of_ble_eq_true rfl) dX5_init_8 (fun q8 H hge_q8 hP hN hS => ?_)
  have hA_q8 := hAs q8 hge_q8
  have hP : va_P (dC, dI) vwCl [(g0, .inr (5, [.null, .null, .null, .null, .null, .null, .null, .int 0, .int 0, .int 0, .int 0, .int 0, .int 0, .int 0])), (q8, .inl (cI, 768, .inl (fun _ => 0)))] H := hP
  have hN : AD N0 [g0, q8] := hN
  refine wa_putF (D := (dC, dI)) (ci := 5) (v := .ref q8) (ty := .array .int) (C := RX5) (T := TX5) (N := 14) hx hb hts hinX5 tyX5 tyX5_ok nmX5 hown hK hP (hN.D rfl) hS hA_g0 0 rfl rfl 0 (by decide) (hts (.fieldLink RX5 9 "GreyReel" "canvas" "[I") (List.mem_of_getElem? (i := 5) (by decide +kernel))) (fun _ h9 => h9) rfl hini rfl (by decide +kernel) rfl rfl (Nat.le_of_ble_eq_true rfl) dX5_init_10 (fun H locs hP hS => ?_)
  have hP : va_P (dC, dI) vwCl [(g0, .inr (5, [.ref q8, .null, .null, .null, .null, .null, .null, .int 0, .int 0, .int 0, .int 0, .int 0, .int 0, .int 0])), (q8, .inl (cI, 768, .inl (fun _ => 0)))] H := hP
  refine lv_aload_n hx hb dX5_init_13 rfl (lv_at hl 0 rfl) ?_
  refine lv_bipush (v := 24) hx hb dX5_init_14 (by decide +kernel) ?_
  refine wa_newq (D := (dC, dI)) (N' := 24) hx hb hown (hts (.classLink RX5 13 RX2) (List.mem_of_getElem? (i := 6) (by decide +kernel))) hEX.2 hK hP hN rfl hS hAs hE.2.2.1 (by decide) (by decide) (by omega) (Nat.le_of_ble_eq_true rfl) (Nat.le_of_ble_eq_true rfl) dX5_init_16 (fun q16 H hge_q16 hP hN hS => ?_)
  have hA_q16 := hAs q16 hge_q16
  have hP : va_P (dC, dI) vwCl [(g0, .inr (5, [.ref q8, .null, .null, .null, .null, .null, .null, .int 0, .int 0, .int 0, .int 0, .int 0, .int 0, .int 0])), (q8, .inl (cI, 768, .inl (fun _ => 0))), (q16, .inl (cP, 24, .inr (.inr (.inr (.inr (fun _ => none))))))] H := hP
  have hN : AD N0 [g0, q8, q16] := hN
  refine wa_putF (D := (dC, dI)) (ci := 5) (v := .ref q16) (ty := (.array (.object "GreyReel$Picture"))) (C := RX5) (T := TX5) (N := 14) hx hb hts hinX5 tyX5 tyX5_ok nmX5 hown hK hP (hN.D rfl) hS hA_g0 0 rfl rfl 1 (by decide) (hts (.fieldLink RX5 15 "GreyReel" "reel" "[LGreyReel$Picture;") (List.mem_of_getElem? (i := 7) (by decide +kernel))) (fun _ h9 => h9) rfl hini rfl (by decide +kernel) rfl rfl (Nat.le_of_ble_eq_true rfl) dX5_init_19 (fun H locs hP hS => ?_)
  have hP : va_P (dC, dI) vwCl [(g0, .inr (5, [.ref q8, .ref q16, .null, .null, .null, .null, .null, .int 0, .int 0, .int 0, .int 0, .int 0, .int 0, .int 0])), (q8, .inl (cI, 768, .inl (fun _ => 0))), (q16, .inl (cP, 24, .inr (.inr (.inr (.inr (fun _ => none))))))] H := hP
  refine lv_aload_n hx hb dX5_init_22 rfl (lv_at hl 0 rfl) ?_
  refine wa_newo (D := (dC, dI)) (ci := 0) (fs := [.null, .int 0, .int 0, .int 0, .int 0]) (C := RX0) (T := TX0) (N := 5) hx hb hts hinX0 tyX0 tyX0_ok hown (hts (.classLink RX5 19 RX0) (List.mem_of_getElem? (i := 8) (by decide +kernel))) (hts (.instantiable RX0 5) (List.mem_of_getElem? (i := 9) (by decide +kernel))) (hts (.initialized RX0) (List.mem_of_getElem? (i := 10) (by decide +kernel))) hK hP hN rfl hS hAs hE.2.2.1 rfl (fun j hj => by rcases (show j = 0 ∨ j = 1 ∨ j = 2 ∨ j = 3 ∨ j = 4 by omega) with rfl | rfl | rfl | rfl | rfl <;> rfl) (Nat.le_of_ble_eq_true rfl) (Nat.le_of_ble_eq_true rfl) dX5_init_23 (fun q23 H hge_q23 hP hN hS => ?_)
  have hA_q23 := hAs q23 hge_q23
  have hP : va_P (dC, dI) vwCl [(g0, .inr (5, [.ref q8, .ref q16, .null, .null, .null, .null, .null, .int 0, .int 0, .int 0, .int 0, .int 0, .int 0, .int 0])), (q8, .inl (cI, 768, .inl (fun _ => 0))), (q16, .inl (cP, 24, .inr (.inr (.inr (.inr (fun _ => none)))))), (q23, .inr (0, [.null, .int 0, .int 0, .int 0, .int 0]))] H := hP
  have hN : AD N0 [g0, q8, q16, q23] := hN
  refine lv_dup hx hb dX5_init_26 rfl ?_
  refine va_callv (va_runIN (As := []) (rest := [.ref q23, .ref g0]) ⟨hx, hb, hml, hown, hts⟩ (C_X0_init l dC dI cI cZ cP N0 tO q23 H.size ) ⟨va_cnB 0 hts gX5_init_X0_init_n21 rfl rfl rfl hNS.1.1 (hts (.initialized RX0) (List.mem_of_getElem? (i := 10) (by decide +kernel))) (by decide +kernel) ⟨Nat.le_of_ble_eq_true rfl, Nat.le_of_ble_eq_true rfl⟩, rfl, (hts (.instanceMethod yX0_init) (List.mem_of_getElem? (i := 31) (by decide +kernel)))⟩ ⟨GvA.blind, GvA.of (hE.S hS hAN) hEX ⟨(hP.sub [3] rfl), hN.sub [3] (by decide) rfl, rfl⟩⟩ rfl rfl hl.1 rfl (lv_room (Nat.le_of_ble_eq_true rfl)) dX5_init_27 ⟨Nat.le_of_ble_eq_true rfl, Nat.le_of_ble_eq_true rfl⟩) hS (fun q _ h => h.elim ((al_cons hA_q23 al_nil) q) (fun h => hAs q (Nat.le_trans hS.1 h))) (fun q h => h.elim ((al_cons hA_q23 al_nil) q) (fun h => hAs q (Nat.le_trans hS.1 h))) (fun u t H locs ht hvm hw hB hz1 hk1 hS2 => ?_)
  obtain ⟨a_2, a_3, a_4, a_5, a_6⟩ := u
  obtain ⟨hP9, hN9, hG9⟩ := hB
  rw [ht] at hP9
  have hlt9 := va_P.lt9 hP rfl
  have hPo := va_back (L := [q23]) hP hN rfl [3] rfl rfl (fun q h1 h2 => hk1 q h1 (fun z => z.elim h2 (fun z => absurd z (Nat.not_le.mpr h1)))) (hP9.sub [0] rfl)
  have hP := hPo.app (hP9.sub [1, 2, 3, 4, 5] rfl)
  have hN := hN.appN hlt9 hN9 hG9
  have hge_a_2 := Nat.le_trans hS.1 (hG9 a_2 (List.mem_of_getElem? (i := 0) rfl))
  have hA_a_2 := hAs a_2 hge_a_2
  have hge_a_3 := Nat.le_trans hS.1 (hG9 a_3 (List.mem_of_getElem? (i := 1) rfl))
  have hA_a_3 := hAs a_3 hge_a_3
  have hge_a_4 := Nat.le_trans hS.1 (hG9 a_4 (List.mem_of_getElem? (i := 2) rfl))
  have hA_a_4 := hAs a_4 hge_a_4
  have hge_a_5 := Nat.le_trans hS.1 (hG9 a_5 (List.mem_of_getElem? (i := 3) rfl))
  have hA_a_5 := hAs a_5 hge_a_5
  have hge_a_6 := Nat.le_trans hS.1 (hG9 a_6 (List.mem_of_getElem? (i := 4) rfl))
  have hA_a_6 := hAs a_6 hge_a_6
  have hS := hS2
  clear hPo hP9 hN9 hG9 hlt9 hk1 hz1 hvm ht t
  have hP : va_P (dC, dI) vwCl [(g0, .inr (5, [.ref q8, .ref q16, .null, .null, .null, .null, .null, .int 0, .int 0, .int 0, .int 0, .int 0, .int 0, .int 0])), (q8, .inl (cI, 768, .inl (fun _ => 0))), (q16, .inl (cP, 24, .inr (.inr (.inr (.inr (fun _ => none)))))), (q23, .inr (0, [.ref a_2, .int 2, .int 0, .int 0, .int 0])), (a_2, .inr (3, [.ref a_3, .ref a_4, .ref a_5, .ref a_6])), (a_3, .inl (cI, 1140, .inl (fun _ => 0))), (a_4, .inl (cI, 16, .inl (fun _ => 0))), (a_5, .inl (cI, 768, .inl (fun _ => 0))), (a_6, .inl (cI, 64, .inl (fun _ => 0)))] H := hP
  have hN : AD N0 [g0, q8, q16, q23, a_2, a_3, a_4, a_5, a_6] := hN
  have hw : True := hw
  have hwr_1 := hw
  refine wa_putF (D := (dC, dI)) (ci := 5) (v := .ref q23) (ty := .object "GreyReel$Coder") (C := RX5) (T := TX5) (N := 14) hx hb hts hinX5 tyX5 tyX5_ok nmX5 hown hK hP (hN.D rfl) hS hA_g0 0 rfl rfl 2 (by decide) (hts (.fieldLink RX5 22 "GreyReel" "coder" "LGreyReel$Coder;") (List.mem_of_getElem? (i := 11) (by decide +kernel))) (fun _ h9 => h9) rfl hini rfl (by decide +kernel) rfl rfl (Nat.le_of_ble_eq_true rfl) dX5_init_30 (fun H locs hP hS => ?_)
  have hP : va_P (dC, dI) vwCl [(g0, .inr (5, [.ref q8, .ref q16, .ref q23, .null, .null, .null, .null, .int 0, .int 0, .int 0, .int 0, .int 0, .int 0, .int 0])), (q8, .inl (cI, 768, .inl (fun _ => 0))), (q16, .inl (cP, 24, .inr (.inr (.inr (.inr (fun _ => none)))))), (q23, .inr (0, [.ref a_2, .int 2, .int 0, .int 0, .int 0])), (a_2, .inr (3, [.ref a_3, .ref a_4, .ref a_5, .ref a_6])), (a_3, .inl (cI, 1140, .inl (fun _ => 0))), (a_4, .inl (cI, 16, .inl (fun _ => 0))), (a_5, .inl (cI, 768, .inl (fun _ => 0))), (a_6, .inl (cI, 64, .inl (fun _ => 0)))] H := hP
  refine lv_aload_n hx hb dX5_init_33 rfl (lv_at hl 0 rfl) ?_
  refine wa_newo (D := (dC, dI)) (ci := 1) (fs := [.null, .null, .null, .int 0]) (C := RX1) (T := TX1) (N := 4) hx hb hts hinX1 tyX1 tyX1_ok hown (hts (.classLink RX5 26 RX1) (List.mem_of_getElem? (i := 12) (by decide +kernel))) (hts (.instantiable RX1 4) (List.mem_of_getElem? (i := 13) (by decide +kernel))) (hts (.initialized RX1) (List.mem_of_getElem? (i := 14) (by decide +kernel))) hK hP hN rfl hS hAs hE.2.2.1 rfl (fun j hj => by rcases (show j = 0 ∨ j = 1 ∨ j = 2 ∨ j = 3 by omega) with rfl | rfl | rfl | rfl <;> rfl) (Nat.le_of_ble_eq_true rfl) (Nat.le_of_ble_eq_true rfl) dX5_init_34 (fun q34 H hge_q34 hP hN hS => ?_)
  have hA_q34 := hAs q34 hge_q34
  have hP : va_P (dC, dI) vwCl [(g0, .inr (5, [.ref q8, .ref q16, .ref q23, .null, .null, .null, .null, .int 0, .int 0, .int 0, .int 0, .int 0, .int 0, .int 0])), (q8, .inl (cI, 768, .inl (fun _ => 0))), (q16, .inl (cP, 24, .inr (.inr (.inr (.inr (fun _ => none)))))), (q23, .inr (0, [.ref a_2, .int 2, .int 0, .int 0, .int 0])), (a_2, .inr (3, [.ref a_3, .ref a_4, .ref a_5, .ref a_6])), (a_3, .inl (cI, 1140, .inl (fun _ => 0))), (a_4, .inl (cI, 16, .inl (fun _ => 0))), (a_5, .inl (cI, 768, .inl (fun _ => 0))), (a_6, .inl (cI, 64, .inl (fun _ => 0))), (q34, .inr (1, [.null, .null, .null, .int 0]))] H := hP
  have hN : AD N0 [g0, q8, q16, q23, a_2, a_3, a_4, a_5, a_6, q34] := hN
  refine lv_dup hx hb dX5_init_37 rfl ?_
  refine va_callv (va_runIN (As := []) (rest := [.ref q34, .ref g0]) ⟨hx, hb, hml, hown, hts⟩ (C_X1_init l dC dI cI cZ cP N0 tO q34 H.size ) ⟨va_cnB 0 hts gX5_init_X1_init_n28 rfl rfl rfl hNS.1.2.1 (hts (.initialized RX1) (List.mem_of_getElem? (i := 14) (by decide +kernel))) (by decide +kernel) ⟨Nat.le_of_ble_eq_true rfl, Nat.le_of_ble_eq_true rfl⟩, rfl, (hts (.instanceMethod yX1_init) (List.mem_of_getElem? (i := 49) (by decide +kernel)))⟩ ⟨GvA.blind, GvA.of (hE.S hS hAN) hEX ⟨(hP.sub [9] rfl), hN.sub [9] (by decide) rfl, rfl⟩⟩ rfl rfl hl.1 rfl (lv_room (Nat.le_of_ble_eq_true rfl)) dX5_init_38 ⟨Nat.le_of_ble_eq_true rfl, Nat.le_of_ble_eq_true rfl⟩) hS (fun q _ h => h.elim ((al_cons hA_q34 al_nil) q) (fun h => hAs q (Nat.le_trans hS.1 h))) (fun q h => h.elim ((al_cons hA_q34 al_nil) q) (fun h => hAs q (Nat.le_trans hS.1 h))) (fun u t H locs ht hvm hw hB hz1 hk1 hS2 => ?_)
  obtain ⟨a_8, a_9, a_10⟩ := u
  obtain ⟨hP9, hN9, hG9⟩ := hB
  rw [ht] at hP9
  have hlt9 := va_P.lt9 hP rfl
  have hPo := va_back (L := [q34]) hP hN rfl [9] rfl rfl (fun q h1 h2 => hk1 q h1 (fun z => z.elim h2 (fun z => absurd z (Nat.not_le.mpr h1)))) (hP9.sub [0] rfl)
  have hP := hPo.app (hP9.sub [1, 2, 3] rfl)
  have hN := hN.appN hlt9 hN9 hG9
  have hge_a_8 := Nat.le_trans hS.1 (hG9 a_8 (List.mem_of_getElem? (i := 0) rfl))
  have hA_a_8 := hAs a_8 hge_a_8
  have hge_a_9 := Nat.le_trans hS.1 (hG9 a_9 (List.mem_of_getElem? (i := 1) rfl))
  have hA_a_9 := hAs a_9 hge_a_9
  have hge_a_10 := Nat.le_trans hS.1 (hG9 a_10 (List.mem_of_getElem? (i := 2) rfl))
  have hA_a_10 := hAs a_10 hge_a_10
  have hS := hS2
  clear hPo hP9 hN9 hG9 hlt9 hk1 hz1 hvm ht t
  have hP : va_P (dC, dI) vwCl [(g0, .inr (5, [.ref q8, .ref q16, .ref q23, .null, .null, .null, .null, .int 0, .int 0, .int 0, .int 0, .int 0, .int 0, .int 0])), (q8, .inl (cI, 768, .inl (fun _ => 0))), (q16, .inl (cP, 24, .inr (.inr (.inr (.inr (fun _ => none)))))), (q23, .inr (0, [.ref a_2, .int 2, .int 0, .int 0, .int 0])), (a_2, .inr (3, [.ref a_3, .ref a_4, .ref a_5, .ref a_6])), (a_3, .inl (cI, 1140, .inl (fun _ => 0))), (a_4, .inl (cI, 16, .inl (fun _ => 0))), (a_5, .inl (cI, 768, .inl (fun _ => 0))), (a_6, .inl (cI, 64, .inl (fun _ => 0))), (q34, .inr (1, [.ref a_8, .ref a_9, .ref a_10, .int 0])), (a_8, .inl (cI, 2487, .inl (fun _ => 0))), (a_9, .inl (cI, 5, .inl (fun _ => 0))), (a_10, .inl (cI, 3, .inl (fun _ => 0)))] H := hP
  have hN : AD N0 [g0, q8, q16, q23, a_2, a_3, a_4, a_5, a_6, q34, a_8, a_9, a_10] := hN
  have hw : True := hw
  have hwr_7 := hw
  refine wa_putF (D := (dC, dI)) (ci := 5) (v := .ref q34) (ty := .object "GreyReel$PacketWriter") (C := RX5) (T := TX5) (N := 14) hx hb hts hinX5 tyX5 tyX5_ok nmX5 hown hK hP (hN.D rfl) hS hA_g0 0 rfl rfl 3 (by decide) (hts (.fieldLink RX5 29 "GreyReel" "writer" "LGreyReel$PacketWriter;") (List.mem_of_getElem? (i := 15) (by decide +kernel))) (fun _ h9 => h9) rfl hini rfl (by decide +kernel) rfl rfl (Nat.le_of_ble_eq_true rfl) dX5_init_41 (fun H locs hP hS => ?_)
  have hP : va_P (dC, dI) vwCl [(g0, .inr (5, [.ref q8, .ref q16, .ref q23, .ref q34, .null, .null, .null, .int 0, .int 0, .int 0, .int 0, .int 0, .int 0, .int 0])), (q8, .inl (cI, 768, .inl (fun _ => 0))), (q16, .inl (cP, 24, .inr (.inr (.inr (.inr (fun _ => none)))))), (q23, .inr (0, [.ref a_2, .int 2, .int 0, .int 0, .int 0])), (a_2, .inr (3, [.ref a_3, .ref a_4, .ref a_5, .ref a_6])), (a_3, .inl (cI, 1140, .inl (fun _ => 0))), (a_4, .inl (cI, 16, .inl (fun _ => 0))), (a_5, .inl (cI, 768, .inl (fun _ => 0))), (a_6, .inl (cI, 64, .inl (fun _ => 0))), (q34, .inr (1, [.ref a_8, .ref a_9, .ref a_10, .int 0])), (a_8, .inl (cI, 2487, .inl (fun _ => 0))), (a_9, .inl (cI, 5, .inl (fun _ => 0))), (a_10, .inl (cI, 3, .inl (fun _ => 0)))] H := hP
  refine lv_aload_n hx hb dX5_init_44 rfl (lv_at hl 0 rfl) ?_
  refine wa_newo (D := (dC, dI)) (ci := 4) (fs := [.null, .null, .int 0]) (C := RX4) (T := TX4) (N := 3) hx hb hts hinX4 tyX4 tyX4_ok hown (hts (.classLink RX5 33 RX4) (List.mem_of_getElem? (i := 16) (by decide +kernel))) (hts (.instantiable RX4 3) (List.mem_of_getElem? (i := 17) (by decide +kernel))) (hts (.initialized RX4) (List.mem_of_getElem? (i := 18) (by decide +kernel))) hK hP hN rfl hS hAs hE.2.2.1 rfl (fun j hj => by rcases (show j = 0 ∨ j = 1 ∨ j = 2 by omega) with rfl | rfl | rfl <;> rfl) (Nat.le_of_ble_eq_true rfl) (Nat.le_of_ble_eq_true rfl) dX5_init_45 (fun q45 H hge_q45 hP hN hS => ?_)
  have hA_q45 := hAs q45 hge_q45
  have hP : va_P (dC, dI) vwCl [(g0, .inr (5, [.ref q8, .ref q16, .ref q23, .ref q34, .null, .null, .null, .int 0, .int 0, .int 0, .int 0, .int 0, .int 0, .int 0])), (q8, .inl (cI, 768, .inl (fun _ => 0))), (q16, .inl (cP, 24, .inr (.inr (.inr (.inr (fun _ => none)))))), (q23, .inr (0, [.ref a_2, .int 2, .int 0, .int 0, .int 0])), (a_2, .inr (3, [.ref a_3, .ref a_4, .ref a_5, .ref a_6])), (a_3, .inl (cI, 1140, .inl (fun _ => 0))), (a_4, .inl (cI, 16, .inl (fun _ => 0))), (a_5, .inl (cI, 768, .inl (fun _ => 0))), (a_6, .inl (cI, 64, .inl (fun _ => 0))), (q34, .inr (1, [.ref a_8, .ref a_9, .ref a_10, .int 0])), (a_8, .inl (cI, 2487, .inl (fun _ => 0))), (a_9, .inl (cI, 5, .inl (fun _ => 0))), (a_10, .inl (cI, 3, .inl (fun _ => 0))), (q45, .inr (4, [.null, .null, .int 0]))] H := hP
  have hN : AD N0 [g0, q8, q16, q23, a_2, a_3, a_4, a_5, a_6, q34, a_8, a_9, a_10, q45] := hN
  refine lv_dup hx hb dX5_init_48 rfl ?_
  refine va_callv (va_runI (As := []) (rest := [.ref q45, .ref g0]) ⟨hx, hb, hml, hown, hts⟩ (C_X4_init l dC dI cI cZ cP N0 tO q45 H.size ) (cwI 0 hts gX5_init_X4_init rfl rfl rfl (hts (.initialized RX4) (List.mem_of_getElem? (i := 18) (by decide +kernel))) (hts (.methodLink RX5 35 yX4_init) (List.mem_of_getElem? (i := 56) (by decide +kernel))) (hts (.instanceMethod yX4_init) (List.mem_of_getElem? (i := 57) (by decide +kernel))) rfl (by decide +kernel) ⟨Nat.le_of_ble_eq_true rfl, Nat.le_of_ble_eq_true rfl⟩) ⟨GvA.blind, GvA.of (hE.S hS hAN) hEX ⟨(hP.sub [13] rfl), hN.sub [13] (by decide) rfl, rfl⟩⟩ rfl rfl hl.1 rfl (lv_room (Nat.le_of_ble_eq_true rfl)) dX5_init_49 ⟨Nat.le_of_ble_eq_true rfl, Nat.le_of_ble_eq_true rfl⟩) hS (fun q _ h => h.elim ((al_cons hA_q45 al_nil) q) (fun h => hAs q (Nat.le_trans hS.1 h))) (fun q h => h.elim ((al_cons hA_q45 al_nil) q) (fun h => hAs q (Nat.le_trans hS.1 h))) (fun u t H locs ht hvm hw hB hz1 hk1 hS2 => ?_)
  obtain ⟨a_12, a_13, a_14, a_15, a_16, a_17⟩ := u
  obtain ⟨hP9, hN9, hG9⟩ := hB
  rw [ht] at hP9
  have hlt9 := va_P.lt9 hP rfl
  have hPo := va_back (L := [q45]) hP hN rfl [13] rfl rfl (fun q h1 h2 => hk1 q h1 (fun z => z.elim h2 (fun z => absurd z (Nat.not_le.mpr h1)))) (hP9.sub [0] rfl)
  have hP := hPo.app (hP9.sub [1, 2, 3, 4, 5, 6] rfl)
  have hN := hN.appN hlt9 hN9 hG9
  have hge_a_12 := Nat.le_trans hS.1 (hG9 a_12 (List.mem_of_getElem? (i := 0) rfl))
  have hA_a_12 := hAs a_12 hge_a_12
  have hge_a_13 := Nat.le_trans hS.1 (hG9 a_13 (List.mem_of_getElem? (i := 1) rfl))
  have hA_a_13 := hAs a_13 hge_a_13
  have hge_a_14 := Nat.le_trans hS.1 (hG9 a_14 (List.mem_of_getElem? (i := 2) rfl))
  have hA_a_14 := hAs a_14 hge_a_14
  have hge_a_15 := Nat.le_trans hS.1 (hG9 a_15 (List.mem_of_getElem? (i := 3) rfl))
  have hA_a_15 := hAs a_15 hge_a_15
  have hge_a_16 := Nat.le_trans hS.1 (hG9 a_16 (List.mem_of_getElem? (i := 4) rfl))
  have hA_a_16 := hAs a_16 hge_a_16
  have hge_a_17 := Nat.le_trans hS.1 (hG9 a_17 (List.mem_of_getElem? (i := 5) rfl))
  have hA_a_17 := hAs a_17 hge_a_17
  have hS := hS2
  clear hPo hP9 hN9 hG9 hlt9 hk1 hz1 hvm ht t
  have hP : va_P (dC, dI) vwCl [(g0, .inr (5, [.ref q8, .ref q16, .ref q23, .ref q34, .null, .null, .null, .int 0, .int 0, .int 0, .int 0, .int 0, .int 0, .int 0])), (q8, .inl (cI, 768, .inl (fun _ => 0))), (q16, .inl (cP, 24, .inr (.inr (.inr (.inr (fun _ => none)))))), (q23, .inr (0, [.ref a_2, .int 2, .int 0, .int 0, .int 0])), (a_2, .inr (3, [.ref a_3, .ref a_4, .ref a_5, .ref a_6])), (a_3, .inl (cI, 1140, .inl (fun _ => 0))), (a_4, .inl (cI, 16, .inl (fun _ => 0))), (a_5, .inl (cI, 768, .inl (fun _ => 0))), (a_6, .inl (cI, 64, .inl (fun _ => 0))), (q34, .inr (1, [.ref a_8, .ref a_9, .ref a_10, .int 0])), (a_8, .inl (cI, 2487, .inl (fun _ => 0))), (a_9, .inl (cI, 5, .inl (fun _ => 0))), (a_10, .inl (cI, 3, .inl (fun _ => 0))), (q45, .inr (4, [.ref a_12, .ref a_17, .int 0])), (a_12, .inr (3, [.ref a_13, .ref a_14, .ref a_15, .ref a_16])), (a_13, .inl (cI, 1140, .inl (fun _ => 0))), (a_14, .inl (cI, 16, .inl (fun _ => 0))), (a_15, .inl (cI, 768, .inl (fun _ => 0))), (a_16, .inl (cI, 64, .inl (fun _ => 0))), (a_17, .inl (cI, 768, .inl (fun _ => 128)))] H := hP
  have hN : AD N0 [g0, q8, q16, q23, a_2, a_3, a_4, a_5, a_6, q34, a_8, a_9, a_10, q45, a_12, a_13, a_14, a_15, a_16, a_17] := hN
  have hw : True := hw
  have hwr_11 := hw
  refine wa_putF (D := (dC, dI)) (ci := 5) (v := .ref q45) (ty := .object "GreyReel$Viewer") (C := RX5) (T := TX5) (N := 14) hx hb hts hinX5 tyX5 tyX5_ok nmX5 hown hK hP (hN.D rfl) hS hA_g0 0 rfl rfl 4 (by decide) (hts (.fieldLink RX5 36 "GreyReel" "viewer" "LGreyReel$Viewer;") (List.mem_of_getElem? (i := 19) (by decide +kernel))) (fun _ h9 => h9) rfl hini rfl (by decide +kernel) rfl rfl (Nat.le_of_ble_eq_true rfl) dX5_init_52 (fun H locs hP hS => ?_)
  have hP : va_P (dC, dI) vwCl [(g0, .inr (5, [.ref q8, .ref q16, .ref q23, .ref q34, .ref q45, .null, .null, .int 0, .int 0, .int 0, .int 0, .int 0, .int 0, .int 0])), (q8, .inl (cI, 768, .inl (fun _ => 0))), (q16, .inl (cP, 24, .inr (.inr (.inr (.inr (fun _ => none)))))), (q23, .inr (0, [.ref a_2, .int 2, .int 0, .int 0, .int 0])), (a_2, .inr (3, [.ref a_3, .ref a_4, .ref a_5, .ref a_6])), (a_3, .inl (cI, 1140, .inl (fun _ => 0))), (a_4, .inl (cI, 16, .inl (fun _ => 0))), (a_5, .inl (cI, 768, .inl (fun _ => 0))), (a_6, .inl (cI, 64, .inl (fun _ => 0))), (q34, .inr (1, [.ref a_8, .ref a_9, .ref a_10, .int 0])), (a_8, .inl (cI, 2487, .inl (fun _ => 0))), (a_9, .inl (cI, 5, .inl (fun _ => 0))), (a_10, .inl (cI, 3, .inl (fun _ => 0))), (q45, .inr (4, [.ref a_12, .ref a_17, .int 0])), (a_12, .inr (3, [.ref a_13, .ref a_14, .ref a_15, .ref a_16])), (a_13, .inl (cI, 1140, .inl (fun _ => 0))), (a_14, .inl (cI, 16, .inl (fun _ => 0))), (a_15, .inl (cI, 768, .inl (fun _ => 0))), (a_16, .inl (cI, 64, .inl (fun _ => 0))), (a_17, .inl (cI, 768, .inl (fun _ => 128)))] H := hP
  refine lv_aload_n hx hb dX5_init_55 rfl (lv_at hl 0 rfl) ?_
  refine lv_sipush (v := 768) hx hb dX5_init_56 (by decide +kernel) ?_
  refine wa_newi (D := (dC, dI)) (N' := 768) hx hb (hts (.arrayClass .int) (List.mem_of_getElem? (i := 4) (by decide +kernel))) hK hP hN rfl hS hAs hE.2.2.1 (by decide) (by decide) (by omega) (Nat.le_of_ble_eq_true rfl) (Nat.le_of_ble_eq_true rfl) dX5_init_59 (fun q59 H hge_q59 hP hN hS => ?_)
  have hA_q59 := hAs q59 hge_q59
  have hP : va_P (dC, dI) vwCl [(g0, .inr (5, [.ref q8, .ref q16, .ref q23, .ref q34, .ref q45, .null, .null, .int 0, .int 0, .int 0, .int 0, .int 0, .int 0, .int 0])), (q8, .inl (cI, 768, .inl (fun _ => 0))), (q16, .inl (cP, 24, .inr (.inr (.inr (.inr (fun _ => none)))))), (q23, .inr (0, [.ref a_2, .int 2, .int 0, .int 0, .int 0])), (a_2, .inr (3, [.ref a_3, .ref a_4, .ref a_5, .ref a_6])), (a_3, .inl (cI, 1140, .inl (fun _ => 0))), (a_4, .inl (cI, 16, .inl (fun _ => 0))), (a_5, .inl (cI, 768, .inl (fun _ => 0))), (a_6, .inl (cI, 64, .inl (fun _ => 0))), (q34, .inr (1, [.ref a_8, .ref a_9, .ref a_10, .int 0])), (a_8, .inl (cI, 2487, .inl (fun _ => 0))), (a_9, .inl (cI, 5, .inl (fun _ => 0))), (a_10, .inl (cI, 3, .inl (fun _ => 0))), (q45, .inr (4, [.ref a_12, .ref a_17, .int 0])), (a_12, .inr (3, [.ref a_13, .ref a_14, .ref a_15, .ref a_16])), (a_13, .inl (cI, 1140, .inl (fun _ => 0))), (a_14, .inl (cI, 16, .inl (fun _ => 0))), (a_15, .inl (cI, 768, .inl (fun _ => 0))), (a_16, .inl (cI, 64, .inl (fun _ => 0))), (a_17, .inl (cI, 768, .inl (fun _ => 128))), (q59, .inl (cI, 768, .inl (fun _ => 0)))] H := hP
  have hN : AD N0 [g0, q8, q16, q23, a_2, a_3, a_4, a_5, a_6, q34, a_8, a_9, a_10, q45, a_12, a_13, a_14, a_15, a_16, a_17, q59] := hN
  refine wa_putF (D := (dC, dI)) (ci := 5) (v := .ref q59) (ty := .array .int) (C := RX5) (T := TX5) (N := 14) hx hb hts hinX5 tyX5 tyX5_ok nmX5 hown hK hP (hN.D rfl) hS hA_g0 0 rfl rfl 5 (by decide) (hts (.fieldLink RX5 40 "GreyReel" "canvasBefore" "[I") (List.mem_of_getElem? (i := 20) (by decide +kernel))) (fun _ h9 => h9) rfl hini rfl (by decide +kernel) rfl rfl (Nat.le_of_ble_eq_true rfl) dX5_init_61 (fun H locs hP hS => ?_)
  have hP : va_P (dC, dI) vwCl [(g0, .inr (5, [.ref q8, .ref q16, .ref q23, .ref q34, .ref q45, .ref q59, .null, .int 0, .int 0, .int 0, .int 0, .int 0, .int 0, .int 0])), (q8, .inl (cI, 768, .inl (fun _ => 0))), (q16, .inl (cP, 24, .inr (.inr (.inr (.inr (fun _ => none)))))), (q23, .inr (0, [.ref a_2, .int 2, .int 0, .int 0, .int 0])), (a_2, .inr (3, [.ref a_3, .ref a_4, .ref a_5, .ref a_6])), (a_3, .inl (cI, 1140, .inl (fun _ => 0))), (a_4, .inl (cI, 16, .inl (fun _ => 0))), (a_5, .inl (cI, 768, .inl (fun _ => 0))), (a_6, .inl (cI, 64, .inl (fun _ => 0))), (q34, .inr (1, [.ref a_8, .ref a_9, .ref a_10, .int 0])), (a_8, .inl (cI, 2487, .inl (fun _ => 0))), (a_9, .inl (cI, 5, .inl (fun _ => 0))), (a_10, .inl (cI, 3, .inl (fun _ => 0))), (q45, .inr (4, [.ref a_12, .ref a_17, .int 0])), (a_12, .inr (3, [.ref a_13, .ref a_14, .ref a_15, .ref a_16])), (a_13, .inl (cI, 1140, .inl (fun _ => 0))), (a_14, .inl (cI, 16, .inl (fun _ => 0))), (a_15, .inl (cI, 768, .inl (fun _ => 0))), (a_16, .inl (cI, 64, .inl (fun _ => 0))), (a_17, .inl (cI, 768, .inl (fun _ => 128))), (q59, .inl (cI, 768, .inl (fun _ => 0)))] H := hP
  refine lv_aload_n hx hb dX5_init_64 rfl (lv_at hl 0 rfl) ?_
  refine wa_newo (D := (dC, dI)) (ci := 2) (fs := [.null, .null, .null, .null, .null, .null, .null, .null, .null, .int 0, .int 0, .int 0, .int 0, .int 0]) (C := RX2) (T := TX2) (N := 14) hx hb hts hinX2 tyX2 tyX2_ok hown (hts (.classLink RX5 13 RX2) (List.mem_of_getElem? (i := 6) (by decide +kernel))) (hts (.instantiable RX2 14) (List.mem_of_getElem? (i := 21) (by decide +kernel))) (hts (.initialized RX2) (List.mem_of_getElem? (i := 22) (by decide +kernel))) hK hP hN rfl hS hAs hE.2.2.1 rfl (fun j hj => by rcases (show j = 0 ∨ j = 1 ∨ j = 2 ∨ j = 3 ∨ j = 4 ∨ j = 5 ∨ j = 6 ∨ j = 7 ∨ j = 8 ∨ j = 9 ∨ j = 10 ∨ j = 11 ∨ j = 12 ∨ j = 13 by omega) with rfl | rfl | rfl | rfl | rfl | rfl | rfl | rfl | rfl | rfl | rfl | rfl | rfl | rfl <;> rfl) (Nat.le_of_ble_eq_true rfl) (Nat.le_of_ble_eq_true rfl) dX5_init_65 (fun q65 H hge_q65 hP hN hS => ?_)
  have hA_q65 := hAs q65 hge_q65
  have hP : va_P (dC, dI) vwCl [(g0, .inr (5, [.ref q8, .ref q16, .ref q23, .ref q34, .ref q45, .ref q59, .null, .int 0, .int 0, .int 0, .int 0, .int 0, .int 0, .int 0])), (q8, .inl (cI, 768, .inl (fun _ => 0))), (q16, .inl (cP, 24, .inr (.inr (.inr (.inr (fun _ => none)))))), (q23, .inr (0, [.ref a_2, .int 2, .int 0, .int 0, .int 0])), (a_2, .inr (3, [.ref a_3, .ref a_4, .ref a_5, .ref a_6])), (a_3, .inl (cI, 1140, .inl (fun _ => 0))), (a_4, .inl (cI, 16, .inl (fun _ => 0))), (a_5, .inl (cI, 768, .inl (fun _ => 0))), (a_6, .inl (cI, 64, .inl (fun _ => 0))), (q34, .inr (1, [.ref a_8, .ref a_9, .ref a_10, .int 0])), (a_8, .inl (cI, 2487, .inl (fun _ => 0))), (a_9, .inl (cI, 5, .inl (fun _ => 0))), (a_10, .inl (cI, 3, .inl (fun _ => 0))), (q45, .inr (4, [.ref a_12, .ref a_17, .int 0])), (a_12, .inr (3, [.ref a_13, .ref a_14, .ref a_15, .ref a_16])), (a_13, .inl (cI, 1140, .inl (fun _ => 0))), (a_14, .inl (cI, 16, .inl (fun _ => 0))), (a_15, .inl (cI, 768, .inl (fun _ => 0))), (a_16, .inl (cI, 64, .inl (fun _ => 0))), (a_17, .inl (cI, 768, .inl (fun _ => 128))), (q59, .inl (cI, 768, .inl (fun _ => 0))), (q65, .inr (2, [.null, .null, .null, .null, .null, .null, .null, .null, .null, .int 0, .int 0, .int 0, .int 0, .int 0]))] H := hP
  have hN : AD N0 [g0, q8, q16, q23, a_2, a_3, a_4, a_5, a_6, q34, a_8, a_9, a_10, q45, a_12, a_13, a_14, a_15, a_16, a_17, q59, q65] := hN
  refine lv_dup hx hb dX5_init_68 rfl ?_
  refine va_callv (va_runIN (As := []) (rest := [.ref q65, .ref g0]) ⟨hx, hb, hml, hown, hts⟩ (C_X2_init l dC dI cI cZ cP N0 tO q65 H.size ) ⟨va_cnB 0 hts gX5_init_X2_init_n43 rfl rfl rfl hNS.1.2.2 (hts (.initialized RX2) (List.mem_of_getElem? (i := 22) (by decide +kernel))) (by decide +kernel) ⟨Nat.le_of_ble_eq_true rfl, Nat.le_of_ble_eq_true rfl⟩, rfl, (hts (.instanceMethod yX2_init) (List.mem_of_getElem? (i := 68) (by decide +kernel)))⟩ ⟨GvA.blind, GvA.of (hE.S hS hAN) hEX ⟨(hP.sub [21] rfl), hN.sub [21] (by decide) rfl, rfl⟩⟩ rfl rfl hl.1 rfl (lv_room (Nat.le_of_ble_eq_true rfl)) dX5_init_69 ⟨Nat.le_of_ble_eq_true rfl, Nat.le_of_ble_eq_true rfl⟩) hS (fun q _ h => h.elim ((al_cons hA_q65 al_nil) q) (fun h => hAs q (Nat.le_trans hS.1 h))) (fun q h => h.elim ((al_cons hA_q65 al_nil) q) (fun h => hAs q (Nat.le_trans hS.1 h))) (fun u t H locs ht hvm hw hB hz1 hk1 hS2 => ?_)
  obtain ⟨a_19, a_20, a_21, a_22, a_23, a_24, a_25, a_26, a_27⟩ := u
  obtain ⟨hP9, hN9, hG9⟩ := hB
  rw [ht] at hP9
  have hlt9 := va_P.lt9 hP rfl
  have hPo := va_back (L := [q65]) hP hN rfl [21] rfl rfl (fun q h1 h2 => hk1 q h1 (fun z => z.elim h2 (fun z => absurd z (Nat.not_le.mpr h1)))) (hP9.sub [0] rfl)
  have hP := hPo.app (hP9.sub [1, 2, 3, 4, 5, 6, 7, 8, 9] rfl)
  have hN := hN.appN hlt9 hN9 hG9
  have hge_a_19 := Nat.le_trans hS.1 (hG9 a_19 (List.mem_of_getElem? (i := 0) rfl))
  have hA_a_19 := hAs a_19 hge_a_19
  have hge_a_20 := Nat.le_trans hS.1 (hG9 a_20 (List.mem_of_getElem? (i := 1) rfl))
  have hA_a_20 := hAs a_20 hge_a_20
  have hge_a_21 := Nat.le_trans hS.1 (hG9 a_21 (List.mem_of_getElem? (i := 2) rfl))
  have hA_a_21 := hAs a_21 hge_a_21
  have hge_a_22 := Nat.le_trans hS.1 (hG9 a_22 (List.mem_of_getElem? (i := 3) rfl))
  have hA_a_22 := hAs a_22 hge_a_22
  have hge_a_23 := Nat.le_trans hS.1 (hG9 a_23 (List.mem_of_getElem? (i := 4) rfl))
  have hA_a_23 := hAs a_23 hge_a_23
  have hge_a_24 := Nat.le_trans hS.1 (hG9 a_24 (List.mem_of_getElem? (i := 5) rfl))
  have hA_a_24 := hAs a_24 hge_a_24
  have hge_a_25 := Nat.le_trans hS.1 (hG9 a_25 (List.mem_of_getElem? (i := 6) rfl))
  have hA_a_25 := hAs a_25 hge_a_25
  have hge_a_26 := Nat.le_trans hS.1 (hG9 a_26 (List.mem_of_getElem? (i := 7) rfl))
  have hA_a_26 := hAs a_26 hge_a_26
  have hge_a_27 := Nat.le_trans hS.1 (hG9 a_27 (List.mem_of_getElem? (i := 8) rfl))
  have hA_a_27 := hAs a_27 hge_a_27
  have hS := hS2
  clear hPo hP9 hN9 hG9 hlt9 hk1 hz1 hvm ht t
  have hP : va_P (dC, dI) vwCl [(g0, .inr (5, [.ref q8, .ref q16, .ref q23, .ref q34, .ref q45, .ref q59, .null, .int 0, .int 0, .int 0, .int 0, .int 0, .int 0, .int 0])), (q8, .inl (cI, 768, .inl (fun _ => 0))), (q16, .inl (cP, 24, .inr (.inr (.inr (.inr (fun _ => none)))))), (q23, .inr (0, [.ref a_2, .int 2, .int 0, .int 0, .int 0])), (a_2, .inr (3, [.ref a_3, .ref a_4, .ref a_5, .ref a_6])), (a_3, .inl (cI, 1140, .inl (fun _ => 0))), (a_4, .inl (cI, 16, .inl (fun _ => 0))), (a_5, .inl (cI, 768, .inl (fun _ => 0))), (a_6, .inl (cI, 64, .inl (fun _ => 0))), (q34, .inr (1, [.ref a_8, .ref a_9, .ref a_10, .int 0])), (a_8, .inl (cI, 2487, .inl (fun _ => 0))), (a_9, .inl (cI, 5, .inl (fun _ => 0))), (a_10, .inl (cI, 3, .inl (fun _ => 0))), (q45, .inr (4, [.ref a_12, .ref a_17, .int 0])), (a_12, .inr (3, [.ref a_13, .ref a_14, .ref a_15, .ref a_16])), (a_13, .inl (cI, 1140, .inl (fun _ => 0))), (a_14, .inl (cI, 16, .inl (fun _ => 0))), (a_15, .inl (cI, 768, .inl (fun _ => 0))), (a_16, .inl (cI, 64, .inl (fun _ => 0))), (a_17, .inl (cI, 768, .inl (fun _ => 128))), (q59, .inl (cI, 768, .inl (fun _ => 0))), (q65, .inr (2, [.ref a_19, .ref a_20, .ref a_21, .ref a_22, .ref a_23, .ref a_24, .ref a_25, .ref a_26, .ref a_27, .int 0, .int 1, .int 0, .int 1, .int 1])), (a_19, .inl (cI, 12, .inl (fun _ => 0))), (a_20, .inl (cI, 12, .inl (fun _ => 0))), (a_21, .inl (cI, 12, .inl (fun _ => 0))), (a_22, .inl (cI, 12, .inl (fun _ => 0))), (a_23, .inl (cI, 768, .inl (fun _ => 0))), (a_24, .inl (cI, 768, .inl (fun _ => 0))), (a_25, .inl (cI, 3, .inl (fun _ => 0))), (a_26, .inl (cZ, 3, .inl (fun _ => 0))), (a_27, .inl (cI, 0, .inl (fun _ => 0)))] H := hP
  have hN : AD N0 [g0, q8, q16, q23, a_2, a_3, a_4, a_5, a_6, q34, a_8, a_9, a_10, q45, a_12, a_13, a_14, a_15, a_16, a_17, q59, q65, a_19, a_20, a_21, a_22, a_23, a_24, a_25, a_26, a_27] := hN
  have hw : True := hw
  have hwr_18 := hw
  refine wa_put (D := (dC, dI)) (ci := 5) (v := .ref q65) (ty := .object "GreyReel$Picture") (C := RX5) (T := TX5) (N := 14) hx hb hts hinX5 tyX5 tyX5_ok nmX5 hown hK hP (hN.D rfl) hS hA_g0 0 rfl rfl 6 (by decide) (hts (.fieldLink RX5 44 "GreyReel" "draft" "LGreyReel$Picture;") (List.mem_of_getElem? (i := 23) (by decide +kernel))) (fun _ h9 => h9) rfl (by decide +kernel) rfl rfl (Nat.le_of_ble_eq_true rfl) dX5_init_72 (fun H locs hP hS => ?_)
  have hP : va_P (dC, dI) vwCl [(g0, .inr (5, [.ref q8, .ref q16, .ref q23, .ref q34, .ref q45, .ref q59, .ref q65, .int 0, .int 0, .int 0, .int 0, .int 0, .int 0, .int 0])), (q8, .inl (cI, 768, .inl (fun _ => 0))), (q16, .inl (cP, 24, .inr (.inr (.inr (.inr (fun _ => none)))))), (q23, .inr (0, [.ref a_2, .int 2, .int 0, .int 0, .int 0])), (a_2, .inr (3, [.ref a_3, .ref a_4, .ref a_5, .ref a_6])), (a_3, .inl (cI, 1140, .inl (fun _ => 0))), (a_4, .inl (cI, 16, .inl (fun _ => 0))), (a_5, .inl (cI, 768, .inl (fun _ => 0))), (a_6, .inl (cI, 64, .inl (fun _ => 0))), (q34, .inr (1, [.ref a_8, .ref a_9, .ref a_10, .int 0])), (a_8, .inl (cI, 2487, .inl (fun _ => 0))), (a_9, .inl (cI, 5, .inl (fun _ => 0))), (a_10, .inl (cI, 3, .inl (fun _ => 0))), (q45, .inr (4, [.ref a_12, .ref a_17, .int 0])), (a_12, .inr (3, [.ref a_13, .ref a_14, .ref a_15, .ref a_16])), (a_13, .inl (cI, 1140, .inl (fun _ => 0))), (a_14, .inl (cI, 16, .inl (fun _ => 0))), (a_15, .inl (cI, 768, .inl (fun _ => 0))), (a_16, .inl (cI, 64, .inl (fun _ => 0))), (a_17, .inl (cI, 768, .inl (fun _ => 128))), (q59, .inl (cI, 768, .inl (fun _ => 0))), (q65, .inr (2, [.ref a_19, .ref a_20, .ref a_21, .ref a_22, .ref a_23, .ref a_24, .ref a_25, .ref a_26, .ref a_27, .int 0, .int 1, .int 0, .int 1, .int 1])), (a_19, .inl (cI, 12, .inl (fun _ => 0))), (a_20, .inl (cI, 12, .inl (fun _ => 0))), (a_21, .inl (cI, 12, .inl (fun _ => 0))), (a_22, .inl (cI, 12, .inl (fun _ => 0))), (a_23, .inl (cI, 768, .inl (fun _ => 0))), (a_24, .inl (cI, 768, .inl (fun _ => 0))), (a_25, .inl (cI, 3, .inl (fun _ => 0))), (a_26, .inl (cZ, 3, .inl (fun _ => 0))), (a_27, .inl (cI, 0, .inl (fun _ => 0)))] H := hP
  refine lv_aload_n hx hb dX5_init_75 rfl (lv_at hl 0 rfl) ?_
  refine lv_iconst (v := 0) hx hb dX5_init_76 (by decide) ?_
  refine wa_put (D := (dC, dI)) (ci := 5) (v := .int 0) (ty := .int) (C := RX5) (T := TX5) (N := 14) hx hb hts hinX5 tyX5 tyX5_ok nmX5 hown hK hP (hN.D rfl) hS hA_g0 0 rfl rfl 7 (by decide) (hts (.fieldLink RX5 48 "GreyReel" "coded" "I") (List.mem_of_getElem? (i := 24) (by decide +kernel))) (fun _ h9 => h9) rfl (by decide +kernel) rfl rfl (Nat.le_of_ble_eq_true rfl) dX5_init_77 (fun H locs hP hS => ?_)
  have hP : va_P (dC, dI) vwCl [(g0, .inr (5, [.ref q8, .ref q16, .ref q23, .ref q34, .ref q45, .ref q59, .ref q65, .int 0, .int 0, .int 0, .int 0, .int 0, .int 0, .int 0])), (q8, .inl (cI, 768, .inl (fun _ => 0))), (q16, .inl (cP, 24, .inr (.inr (.inr (.inr (fun _ => none)))))), (q23, .inr (0, [.ref a_2, .int 2, .int 0, .int 0, .int 0])), (a_2, .inr (3, [.ref a_3, .ref a_4, .ref a_5, .ref a_6])), (a_3, .inl (cI, 1140, .inl (fun _ => 0))), (a_4, .inl (cI, 16, .inl (fun _ => 0))), (a_5, .inl (cI, 768, .inl (fun _ => 0))), (a_6, .inl (cI, 64, .inl (fun _ => 0))), (q34, .inr (1, [.ref a_8, .ref a_9, .ref a_10, .int 0])), (a_8, .inl (cI, 2487, .inl (fun _ => 0))), (a_9, .inl (cI, 5, .inl (fun _ => 0))), (a_10, .inl (cI, 3, .inl (fun _ => 0))), (q45, .inr (4, [.ref a_12, .ref a_17, .int 0])), (a_12, .inr (3, [.ref a_13, .ref a_14, .ref a_15, .ref a_16])), (a_13, .inl (cI, 1140, .inl (fun _ => 0))), (a_14, .inl (cI, 16, .inl (fun _ => 0))), (a_15, .inl (cI, 768, .inl (fun _ => 0))), (a_16, .inl (cI, 64, .inl (fun _ => 0))), (a_17, .inl (cI, 768, .inl (fun _ => 128))), (q59, .inl (cI, 768, .inl (fun _ => 0))), (q65, .inr (2, [.ref a_19, .ref a_20, .ref a_21, .ref a_22, .ref a_23, .ref a_24, .ref a_25, .ref a_26, .ref a_27, .int 0, .int 1, .int 0, .int 1, .int 1])), (a_19, .inl (cI, 12, .inl (fun _ => 0))), (a_20, .inl (cI, 12, .inl (fun _ => 0))), (a_21, .inl (cI, 12, .inl (fun _ => 0))), (a_22, .inl (cI, 12, .inl (fun _ => 0))), (a_23, .inl (cI, 768, .inl (fun _ => 0))), (a_24, .inl (cI, 768, .inl (fun _ => 0))), (a_25, .inl (cI, 3, .inl (fun _ => 0))), (a_26, .inl (cZ, 3, .inl (fun _ => 0))), (a_27, .inl (cI, 0, .inl (fun _ => 0)))] H := hP
  refine lv_aload_n hx hb dX5_init_80 rfl (lv_at hl 0 rfl) ?_
  refine lv_iconst (v := 0) hx hb dX5_init_81 (by decide) ?_
  refine wa_put (D := (dC, dI)) (ci := 5) (v := .int 0) (ty := .int) (C := RX5) (T := TX5) (N := 14) hx hb hts hinX5 tyX5 tyX5_ok nmX5 hown hK hP (hN.D rfl) hS hA_g0 0 rfl rfl 8 (by decide) (hts (.fieldLink RX5 52 "GreyReel" "deltasBehindKey" "I") (List.mem_of_getElem? (i := 25) (by decide +kernel))) (fun _ h9 => h9) rfl (by decide +kernel) rfl rfl (Nat.le_of_ble_eq_true rfl) dX5_init_82 (fun H locs hP hS => ?_)
  have hP : va_P (dC, dI) vwCl [(g0, .inr (5, [.ref q8, .ref q16, .ref q23, .ref q34, .ref q45, .ref q59, .ref q65, .int 0, .int 0, .int 0, .int 0, .int 0, .int 0, .int 0])), (q8, .inl (cI, 768, .inl (fun _ => 0))), (q16, .inl (cP, 24, .inr (.inr (.inr (.inr (fun _ => none)))))), (q23, .inr (0, [.ref a_2, .int 2, .int 0, .int 0, .int 0])), (a_2, .inr (3, [.ref a_3, .ref a_4, .ref a_5, .ref a_6])), (a_3, .inl (cI, 1140, .inl (fun _ => 0))), (a_4, .inl (cI, 16, .inl (fun _ => 0))), (a_5, .inl (cI, 768, .inl (fun _ => 0))), (a_6, .inl (cI, 64, .inl (fun _ => 0))), (q34, .inr (1, [.ref a_8, .ref a_9, .ref a_10, .int 0])), (a_8, .inl (cI, 2487, .inl (fun _ => 0))), (a_9, .inl (cI, 5, .inl (fun _ => 0))), (a_10, .inl (cI, 3, .inl (fun _ => 0))), (q45, .inr (4, [.ref a_12, .ref a_17, .int 0])), (a_12, .inr (3, [.ref a_13, .ref a_14, .ref a_15, .ref a_16])), (a_13, .inl (cI, 1140, .inl (fun _ => 0))), (a_14, .inl (cI, 16, .inl (fun _ => 0))), (a_15, .inl (cI, 768, .inl (fun _ => 0))), (a_16, .inl (cI, 64, .inl (fun _ => 0))), (a_17, .inl (cI, 768, .inl (fun _ => 128))), (q59, .inl (cI, 768, .inl (fun _ => 0))), (q65, .inr (2, [.ref a_19, .ref a_20, .ref a_21, .ref a_22, .ref a_23, .ref a_24, .ref a_25, .ref a_26, .ref a_27, .int 0, .int 1, .int 0, .int 1, .int 1])), (a_19, .inl (cI, 12, .inl (fun _ => 0))), (a_20, .inl (cI, 12, .inl (fun _ => 0))), (a_21, .inl (cI, 12, .inl (fun _ => 0))), (a_22, .inl (cI, 12, .inl (fun _ => 0))), (a_23, .inl (cI, 768, .inl (fun _ => 0))), (a_24, .inl (cI, 768, .inl (fun _ => 0))), (a_25, .inl (cI, 3, .inl (fun _ => 0))), (a_26, .inl (cZ, 3, .inl (fun _ => 0))), (a_27, .inl (cI, 0, .inl (fun _ => 0)))] H := hP
  refine lv_aload_n hx hb dX5_init_85 rfl (lv_at hl 0 rfl) ?_
  refine lv_bipush (v := 8) hx hb dX5_init_86 (by decide +kernel) ?_
  refine wa_put (D := (dC, dI)) (ci := 5) (v := .int 8) (ty := .int) (C := RX5) (T := TX5) (N := 14) hx hb hts hinX5 tyX5 tyX5_ok nmX5 hown hK hP (hN.D rfl) hS hA_g0 0 rfl rfl 9 (by decide) (hts (.fieldLink RX5 55 "GreyReel" "nextStep" "I") (List.mem_of_getElem? (i := 26) (by decide +kernel))) (fun _ h9 => h9) rfl (by decide +kernel) rfl rfl (Nat.le_of_ble_eq_true rfl) dX5_init_88 (fun H locs hP hS => ?_)
  have hP : va_P (dC, dI) vwCl [(g0, .inr (5, [.ref q8, .ref q16, .ref q23, .ref q34, .ref q45, .ref q59, .ref q65, .int 0, .int 0, .int 8, .int 0, .int 0, .int 0, .int 0])), (q8, .inl (cI, 768, .inl (fun _ => 0))), (q16, .inl (cP, 24, .inr (.inr (.inr (.inr (fun _ => none)))))), (q23, .inr (0, [.ref a_2, .int 2, .int 0, .int 0, .int 0])), (a_2, .inr (3, [.ref a_3, .ref a_4, .ref a_5, .ref a_6])), (a_3, .inl (cI, 1140, .inl (fun _ => 0))), (a_4, .inl (cI, 16, .inl (fun _ => 0))), (a_5, .inl (cI, 768, .inl (fun _ => 0))), (a_6, .inl (cI, 64, .inl (fun _ => 0))), (q34, .inr (1, [.ref a_8, .ref a_9, .ref a_10, .int 0])), (a_8, .inl (cI, 2487, .inl (fun _ => 0))), (a_9, .inl (cI, 5, .inl (fun _ => 0))), (a_10, .inl (cI, 3, .inl (fun _ => 0))), (q45, .inr (4, [.ref a_12, .ref a_17, .int 0])), (a_12, .inr (3, [.ref a_13, .ref a_14, .ref a_15, .ref a_16])), (a_13, .inl (cI, 1140, .inl (fun _ => 0))), (a_14, .inl (cI, 16, .inl (fun _ => 0))), (a_15, .inl (cI, 768, .inl (fun _ => 0))), (a_16, .inl (cI, 64, .inl (fun _ => 0))), (a_17, .inl (cI, 768, .inl (fun _ => 128))), (q59, .inl (cI, 768, .inl (fun _ => 0))), (q65, .inr (2, [.ref a_19, .ref a_20, .ref a_21, .ref a_22, .ref a_23, .ref a_24, .ref a_25, .ref a_26, .ref a_27, .int 0, .int 1, .int 0, .int 1, .int 1])), (a_19, .inl (cI, 12, .inl (fun _ => 0))), (a_20, .inl (cI, 12, .inl (fun _ => 0))), (a_21, .inl (cI, 12, .inl (fun _ => 0))), (a_22, .inl (cI, 12, .inl (fun _ => 0))), (a_23, .inl (cI, 768, .inl (fun _ => 0))), (a_24, .inl (cI, 768, .inl (fun _ => 0))), (a_25, .inl (cI, 3, .inl (fun _ => 0))), (a_26, .inl (cZ, 3, .inl (fun _ => 0))), (a_27, .inl (cI, 0, .inl (fun _ => 0)))] H := hP
  refine lv_aload_n hx hb dX5_init_91 rfl (lv_at hl 0 rfl) ?_
  refine lv_iconst (v := 0) hx hb dX5_init_92 (by decide) ?_
  refine wa_put (D := (dC, dI)) (ci := 5) (v := .int 0) (ty := .int) (C := RX5) (T := TX5) (N := 14) hx hb hts hinX5 tyX5 tyX5_ok nmX5 hown hK hP (hN.D rfl) hS hA_g0 0 rfl rfl 10 (by decide) (hts (.fieldLink RX5 58 "GreyReel" "bytesWanted" "I") (List.mem_of_getElem? (i := 27) (by decide +kernel))) (fun _ h9 => h9) rfl (by decide +kernel) rfl rfl (Nat.le_of_ble_eq_true rfl) dX5_init_93 (fun H locs hP hS => ?_)
  have hP : va_P (dC, dI) vwCl [(g0, .inr (5, [.ref q8, .ref q16, .ref q23, .ref q34, .ref q45, .ref q59, .ref q65, .int 0, .int 0, .int 8, .int 0, .int 0, .int 0, .int 0])), (q8, .inl (cI, 768, .inl (fun _ => 0))), (q16, .inl (cP, 24, .inr (.inr (.inr (.inr (fun _ => none)))))), (q23, .inr (0, [.ref a_2, .int 2, .int 0, .int 0, .int 0])), (a_2, .inr (3, [.ref a_3, .ref a_4, .ref a_5, .ref a_6])), (a_3, .inl (cI, 1140, .inl (fun _ => 0))), (a_4, .inl (cI, 16, .inl (fun _ => 0))), (a_5, .inl (cI, 768, .inl (fun _ => 0))), (a_6, .inl (cI, 64, .inl (fun _ => 0))), (q34, .inr (1, [.ref a_8, .ref a_9, .ref a_10, .int 0])), (a_8, .inl (cI, 2487, .inl (fun _ => 0))), (a_9, .inl (cI, 5, .inl (fun _ => 0))), (a_10, .inl (cI, 3, .inl (fun _ => 0))), (q45, .inr (4, [.ref a_12, .ref a_17, .int 0])), (a_12, .inr (3, [.ref a_13, .ref a_14, .ref a_15, .ref a_16])), (a_13, .inl (cI, 1140, .inl (fun _ => 0))), (a_14, .inl (cI, 16, .inl (fun _ => 0))), (a_15, .inl (cI, 768, .inl (fun _ => 0))), (a_16, .inl (cI, 64, .inl (fun _ => 0))), (a_17, .inl (cI, 768, .inl (fun _ => 128))), (q59, .inl (cI, 768, .inl (fun _ => 0))), (q65, .inr (2, [.ref a_19, .ref a_20, .ref a_21, .ref a_22, .ref a_23, .ref a_24, .ref a_25, .ref a_26, .ref a_27, .int 0, .int 1, .int 0, .int 1, .int 1])), (a_19, .inl (cI, 12, .inl (fun _ => 0))), (a_20, .inl (cI, 12, .inl (fun _ => 0))), (a_21, .inl (cI, 12, .inl (fun _ => 0))), (a_22, .inl (cI, 12, .inl (fun _ => 0))), (a_23, .inl (cI, 768, .inl (fun _ => 0))), (a_24, .inl (cI, 768, .inl (fun _ => 0))), (a_25, .inl (cI, 3, .inl (fun _ => 0))), (a_26, .inl (cZ, 3, .inl (fun _ => 0))), (a_27, .inl (cI, 0, .inl (fun _ => 0)))] H := hP
  refine lv_aload_n hx hb dX5_init_96 rfl (lv_at hl 0 rfl) ?_
  refine lv_bipush (v := 12) hx hb dX5_init_97 (by decide +kernel) ?_
  refine wa_put (D := (dC, dI)) (ci := 5) (v := .int 12) (ty := .int) (C := RX5) (T := TX5) (N := 14) hx hb hts hinX5 tyX5 tyX5_ok nmX5 hown hK hP (hN.D rfl) hS hA_g0 0 rfl rfl 11 (by decide) (hts (.fieldLink RX5 61 "GreyReel" "keyInterval" "I") (List.mem_of_getElem? (i := 28) (by decide +kernel))) (fun _ h9 => h9) rfl (by decide +kernel) rfl rfl (Nat.le_of_ble_eq_true rfl) dX5_init_99 (fun H locs hP hS => ?_)
  have hP : va_P (dC, dI) vwCl [(g0, .inr (5, [.ref q8, .ref q16, .ref q23, .ref q34, .ref q45, .ref q59, .ref q65, .int 0, .int 0, .int 8, .int 0, .int 12, .int 0, .int 0])), (q8, .inl (cI, 768, .inl (fun _ => 0))), (q16, .inl (cP, 24, .inr (.inr (.inr (.inr (fun _ => none)))))), (q23, .inr (0, [.ref a_2, .int 2, .int 0, .int 0, .int 0])), (a_2, .inr (3, [.ref a_3, .ref a_4, .ref a_5, .ref a_6])), (a_3, .inl (cI, 1140, .inl (fun _ => 0))), (a_4, .inl (cI, 16, .inl (fun _ => 0))), (a_5, .inl (cI, 768, .inl (fun _ => 0))), (a_6, .inl (cI, 64, .inl (fun _ => 0))), (q34, .inr (1, [.ref a_8, .ref a_9, .ref a_10, .int 0])), (a_8, .inl (cI, 2487, .inl (fun _ => 0))), (a_9, .inl (cI, 5, .inl (fun _ => 0))), (a_10, .inl (cI, 3, .inl (fun _ => 0))), (q45, .inr (4, [.ref a_12, .ref a_17, .int 0])), (a_12, .inr (3, [.ref a_13, .ref a_14, .ref a_15, .ref a_16])), (a_13, .inl (cI, 1140, .inl (fun _ => 0))), (a_14, .inl (cI, 16, .inl (fun _ => 0))), (a_15, .inl (cI, 768, .inl (fun _ => 0))), (a_16, .inl (cI, 64, .inl (fun _ => 0))), (a_17, .inl (cI, 768, .inl (fun _ => 128))), (q59, .inl (cI, 768, .inl (fun _ => 0))), (q65, .inr (2, [.ref a_19, .ref a_20, .ref a_21, .ref a_22, .ref a_23, .ref a_24, .ref a_25, .ref a_26, .ref a_27, .int 0, .int 1, .int 0, .int 1, .int 1])), (a_19, .inl (cI, 12, .inl (fun _ => 0))), (a_20, .inl (cI, 12, .inl (fun _ => 0))), (a_21, .inl (cI, 12, .inl (fun _ => 0))), (a_22, .inl (cI, 12, .inl (fun _ => 0))), (a_23, .inl (cI, 768, .inl (fun _ => 0))), (a_24, .inl (cI, 768, .inl (fun _ => 0))), (a_25, .inl (cI, 3, .inl (fun _ => 0))), (a_26, .inl (cZ, 3, .inl (fun _ => 0))), (a_27, .inl (cI, 0, .inl (fun _ => 0)))] H := hP
  refine lv_aload_n hx hb dX5_init_102 rfl (lv_at hl 0 rfl) ?_
  refine lv_iconst (v := 1) hx hb dX5_init_103 (by decide) ?_
  refine wa_put (D := (dC, dI)) (ci := 5) (v := .int 1) (ty := .boolean) (C := RX5) (T := TX5) (N := 14) hx hb hts hinX5 tyX5 tyX5_ok nmX5 hown hK hP (hN.D rfl) hS hA_g0 0 rfl rfl 12 (by decide) (hts (.fieldLink RX5 64 "GreyReel" "isSmoothing" "Z") (List.mem_of_getElem? (i := 29) (by decide +kernel))) (fun _ h9 => h9) rfl (by decide +kernel) (by decide +kernel) rfl (Nat.le_of_ble_eq_true rfl) dX5_init_104 (fun H locs hP hS => ?_)
  have hP : va_P (dC, dI) vwCl [(g0, .inr (5, [.ref q8, .ref q16, .ref q23, .ref q34, .ref q45, .ref q59, .ref q65, .int 0, .int 0, .int 8, .int 0, .int 12, .int 1, .int 0])), (q8, .inl (cI, 768, .inl (fun _ => 0))), (q16, .inl (cP, 24, .inr (.inr (.inr (.inr (fun _ => none)))))), (q23, .inr (0, [.ref a_2, .int 2, .int 0, .int 0, .int 0])), (a_2, .inr (3, [.ref a_3, .ref a_4, .ref a_5, .ref a_6])), (a_3, .inl (cI, 1140, .inl (fun _ => 0))), (a_4, .inl (cI, 16, .inl (fun _ => 0))), (a_5, .inl (cI, 768, .inl (fun _ => 0))), (a_6, .inl (cI, 64, .inl (fun _ => 0))), (q34, .inr (1, [.ref a_8, .ref a_9, .ref a_10, .int 0])), (a_8, .inl (cI, 2487, .inl (fun _ => 0))), (a_9, .inl (cI, 5, .inl (fun _ => 0))), (a_10, .inl (cI, 3, .inl (fun _ => 0))), (q45, .inr (4, [.ref a_12, .ref a_17, .int 0])), (a_12, .inr (3, [.ref a_13, .ref a_14, .ref a_15, .ref a_16])), (a_13, .inl (cI, 1140, .inl (fun _ => 0))), (a_14, .inl (cI, 16, .inl (fun _ => 0))), (a_15, .inl (cI, 768, .inl (fun _ => 0))), (a_16, .inl (cI, 64, .inl (fun _ => 0))), (a_17, .inl (cI, 768, .inl (fun _ => 128))), (q59, .inl (cI, 768, .inl (fun _ => 0))), (q65, .inr (2, [.ref a_19, .ref a_20, .ref a_21, .ref a_22, .ref a_23, .ref a_24, .ref a_25, .ref a_26, .ref a_27, .int 0, .int 1, .int 0, .int 1, .int 1])), (a_19, .inl (cI, 12, .inl (fun _ => 0))), (a_20, .inl (cI, 12, .inl (fun _ => 0))), (a_21, .inl (cI, 12, .inl (fun _ => 0))), (a_22, .inl (cI, 12, .inl (fun _ => 0))), (a_23, .inl (cI, 768, .inl (fun _ => 0))), (a_24, .inl (cI, 768, .inl (fun _ => 0))), (a_25, .inl (cI, 3, .inl (fun _ => 0))), (a_26, .inl (cZ, 3, .inl (fun _ => 0))), (a_27, .inl (cI, 0, .inl (fun _ => 0)))] H := hP
  refine lv_aload_n hx hb dX5_init_107 rfl (lv_at hl 0 rfl) ?_
  refine lv_iconst (v := 0) hx hb dX5_init_108 (by decide) ?_
  refine wa_put (D := (dC, dI)) (ci := 5) (v := .int 0) (ty := .boolean) (C := RX5) (T := TX5) (N := 14) hx hb hts hinX5 tyX5 tyX5_ok nmX5 hown hK hP (hN.D rfl) hS hA_g0 0 rfl rfl 13 (by decide) (hts (.fieldLink RX5 68 "GreyReel" "isKeyAsked" "Z") (List.mem_of_getElem? (i := 30) (by decide +kernel))) (fun _ h9 => h9) rfl (by decide +kernel) (by decide +kernel) rfl (Nat.le_of_ble_eq_true rfl) dX5_init_109 (fun H locs hP hS => ?_)
  have hP : va_P (dC, dI) vwCl [(g0, .inr (5, [.ref q8, .ref q16, .ref q23, .ref q34, .ref q45, .ref q59, .ref q65, .int 0, .int 0, .int 8, .int 0, .int 12, .int 1, .int 0])), (q8, .inl (cI, 768, .inl (fun _ => 0))), (q16, .inl (cP, 24, .inr (.inr (.inr (.inr (fun _ => none)))))), (q23, .inr (0, [.ref a_2, .int 2, .int 0, .int 0, .int 0])), (a_2, .inr (3, [.ref a_3, .ref a_4, .ref a_5, .ref a_6])), (a_3, .inl (cI, 1140, .inl (fun _ => 0))), (a_4, .inl (cI, 16, .inl (fun _ => 0))), (a_5, .inl (cI, 768, .inl (fun _ => 0))), (a_6, .inl (cI, 64, .inl (fun _ => 0))), (q34, .inr (1, [.ref a_8, .ref a_9, .ref a_10, .int 0])), (a_8, .inl (cI, 2487, .inl (fun _ => 0))), (a_9, .inl (cI, 5, .inl (fun _ => 0))), (a_10, .inl (cI, 3, .inl (fun _ => 0))), (q45, .inr (4, [.ref a_12, .ref a_17, .int 0])), (a_12, .inr (3, [.ref a_13, .ref a_14, .ref a_15, .ref a_16])), (a_13, .inl (cI, 1140, .inl (fun _ => 0))), (a_14, .inl (cI, 16, .inl (fun _ => 0))), (a_15, .inl (cI, 768, .inl (fun _ => 0))), (a_16, .inl (cI, 64, .inl (fun _ => 0))), (a_17, .inl (cI, 768, .inl (fun _ => 128))), (q59, .inl (cI, 768, .inl (fun _ => 0))), (q65, .inr (2, [.ref a_19, .ref a_20, .ref a_21, .ref a_22, .ref a_23, .ref a_24, .ref a_25, .ref a_26, .ref a_27, .int 0, .int 1, .int 0, .int 1, .int 1])), (a_19, .inl (cI, 12, .inl (fun _ => 0))), (a_20, .inl (cI, 12, .inl (fun _ => 0))), (a_21, .inl (cI, 12, .inl (fun _ => 0))), (a_22, .inl (cI, 12, .inl (fun _ => 0))), (a_23, .inl (cI, 768, .inl (fun _ => 0))), (a_24, .inl (cI, 768, .inl (fun _ => 0))), (a_25, .inl (cI, 3, .inl (fun _ => 0))), (a_26, .inl (cZ, 3, .inl (fun _ => 0))), (a_27, .inl (cI, 0, .inl (fun _ => 0)))] H := hP
  refine W.widen (k := 30) (n := 10423) (by omega) (by omega) ?_
  exact W.vret hx hb hr (fun t ht hW => ⟨⟨(q8, q16, q23, a_2, a_3, a_4, a_5, a_6, q34, a_8, a_9, a_10, q45, a_12, a_13, a_14, a_15, a_16, a_17, q59, q65, a_19, a_20, a_21, a_22, a_23, a_24, a_25, a_26, a_27), rfl, trivial, by show va_P _ _ _ t.heap ∧ _; rw [ht]; exact ⟨hP.sub [0, 1, 2, 3, 4, 5, 6, 7, 8, 9, 10, 11, 12, 13, 14, 15, 16, 17, 18, 19, 20, 21, 22, 23, 24, 25, 26, 27, 28, 29, 30] rfl, hN.sub [1, 2, 3, 4, 5, 6, 7, 8, 9, 10, 11, 12, 13, 14, 15, 16, 17, 18, 19, 20, 21, 22, 23, 24, 25, 26, 27, 28, 29, 30] (by decide) rfl, (al_cons hge_q8 (al_cons hge_q16 (al_cons hge_q23 (al_cons hge_a_2 (al_cons hge_a_3 (al_cons hge_a_4 (al_cons hge_a_5 (al_cons hge_a_6 (al_cons hge_q34 (al_cons hge_a_8 (al_cons hge_a_9 (al_cons hge_a_10 (al_cons hge_q45 (al_cons hge_a_12 (al_cons hge_a_13 (al_cons hge_a_14 (al_cons hge_a_15 (al_cons hge_a_16 (al_cons hge_a_17 (al_cons hge_q59 (al_cons hge_q65 (al_cons hge_a_19 (al_cons hge_a_20 (al_cons hge_a_21 (al_cons hge_a_22 (al_cons hge_a_23 (al_cons hge_a_24 (al_cons hge_a_25 (al_cons hge_a_26 (al_cons hge_a_27 al_nil))))))))))))))))))))))))))))))⟩⟩, hS.F ht⟩) hS.2.2 dX5_init_112
set_option maxHeartbeats 4000000 in
set_option maxRecDepth 100000 in
theorem C_J7_copyOf_59c91 (l : Launch) (dC : Nat → ClassId) (dI : Nat → Nat → Nat) (cI cZ cP : ClassId) (N0 tO : Nat) (a n : Nat) (f : Nat → Int32) (sz : Nat) (hn : n ≤ 2487) : Met l yJ7_copyOf_59c91 wsJ7_copyOf_59c91 ({ frames := 1, cells := 1, slots := 2487, locals := 32 } : Room) (GvA (dC, dI) cI cZ cP N0 tO [.ref a, .int (nI n)] (fun H => va_P (dC, dI) vwCl [(a, .inl (cI, 2487, .inl f))] H ∧ AD N0 [a] ∧ H.size = sz)) (va_Qr (fun (wN : Nat) => True) (fun (wN : Nat) (ra9 : Nat) (t : State) => ra9 = wN ∧ va_P (dC, dI) vwCl [(a, .inl (cI, 2487, .inl f)), (wN, .inl (cI, n, .inl f))] t.heap ∧ AD N0 [wN] ∧ ∀ a9 ∈ [wN], sz ≤ a9) (inLN [a] sz)) 1 2487 (inLN [a] sz) := by
  refine Met.ofW (cc := cJ7_copyOf_59c91) (maxL := 3) (ret := (some (.array .int))) (by decide) rfl ?_
  intro p e s m args below meth c s₁ B hml hv
  obtain ⟨rfl, ⟨hE, hEX⟩, hP, hN, hsz⟩ := hv
  subst hsz
  have hx := B.exec
  have hb := B.bytes
  have hr := B.returns
  have hts := atoms_spec (ws := wsJ7_copyOf_59c91) B.pre
  have hown : s.vm.findClass RJ7 = some m.cls := findClass_of_methodNamed B.named
  have hlocks := B.notSynchronized
  have hK := hE.1
  have hNS := hE.2.1
  have hS : va_S (inLN [a] s.heap.size) s.heap s.heap [] := va_S.rf
  have hAN : ∀ q : Nat, (inLN [a] s.heap.size) q → N0 ≤ q := fun q h => h.elim (fun h => hN.in [0] rfl q h) (fun h => Nat.le_trans hE.2.2.1 h)
  have hAs : ∀ q : Nat, s.heap.size ≤ q → (inLN [a] s.heap.size) q := fun _ h => Or.inr h
  have hA_a : (inLN [a] s.heap.size) a := Or.inl (List.mem_of_getElem? (i := 0) rfl)
  have hP : va_P (dC, dI) vwCl [(a, .inl (cI, 2487, .inl f))] s.heap := hP
  have hl := lv_entry ([.ref a, .int (nI n)]) (n := 3) (Nat.le_of_ble_eq_true rfl)
  rw [lg_entry_eq]
  generalize (lg_sl ([.ref a, .int (nI n)]) ++ List.replicate (3 - (lg_sl ([.ref a, .int (nI n)])).length) Slot.unset).toArray = ls at hl ⊢
  have hl : lv_has ls 3 [(0, .ref a), (1, .int (nI n))] := hl
  refine lv_iload_n hx hb dJ7_copyOf_59c91_0 rfl (lv_at hl 1 rfl) ?_
  refine lv_aload_n hx hb dJ7_copyOf_59c91_1 rfl (lv_at hl 0 rfl) ?_
  refine va_alen (D := (dC, dI)) (v := nI 2487) hx hb hK hP 0 0 rfl rfl rfl dJ7_copyOf_59c91_2 ?_
  refine lv_icmp_ne (tgt := 14) hx hb dJ7_copyOf_59c91_3 (by decide) (fun c3 => ?_) (fun c3 => ?_)
  · skip
    have c3 : ¬ n = 2487 := fun z => c3 ((nI_eq (a := n) (b := 2487) (by omega) (by omega)).mpr z)
    refine lv_iload_n hx hb dJ7_copyOf_59c91_14 rfl (lv_at hl 1 rfl) ?_
    refine wa_newi (D := (dC, dI)) (N' := n) hx hb (hts (.arrayClass .int) (List.mem_of_getElem? (i := 7) (by decide +kernel))) hK hP hN rfl hS hAs hE.2.2.1 (nI_nn9 (by omega)) (nI_clamp (by omega)) (by omega) (Nat.le_of_ble_eq_true rfl) (show 0 + n ≤ 2487 by omega) dJ7_copyOf_59c91_15 (fun q15 H hge_q15 hP hN hS => ?_)
    refine W.widen (k := 1) (n := 2487) (by omega) (by omega) ?_
    have hA_q15 := hAs q15 hge_q15
    have hP : va_P (dC, dI) vwCl [(a, .inl (cI, 2487, .inl f)), (q15, .inl (cI, n, .inl (fun _ => 0)))] H := hP
    have hN : AD N0 [a, q15] := hN
    refine lv_astore_n (lv' := [(2, .ref q15), (0, .ref a), (1, .int (nI n))]) hx hb dJ7_copyOf_59c91_17 rfl hl (by decide) rfl (fun ls hl => ?_)
    refine lv_aload_n hx hb dJ7_copyOf_59c91_18 rfl (lv_at hl 1 rfl) ?_
    refine lv_iconst (v := 0) hx hb dJ7_copyOf_59c91_19 (by decide) ?_
    refine lv_aload_n hx hb dJ7_copyOf_59c91_20 rfl (lv_at hl 0 rfl) ?_
    refine lv_iconst (v := 0) hx hb dJ7_copyOf_59c91_21 (by decide) ?_
    refine lv_aload_n hx hb dJ7_copyOf_59c91_22 rfl (lv_at hl 1 rfl) ?_
    refine va_alen (D := (dC, dI)) (v := nI 2487) hx hb hK hP 0 0 rfl rfl rfl dJ7_copyOf_59c91_23 ?_
    refine lv_iload_n hx hb dJ7_copyOf_59c91_24 rfl (lv_at hl 2 rfl) ?_
    refine va_mmin hx hb (hml.trans hl.1.symm) hown (hts (.methodLink RJ7 304 Lib.Math.min.name) (List.mem_of_getElem? (i := 8) (by decide +kernel))) (hts (.static Lib.Math.min.name) (List.mem_of_getElem? (i := 9) (by decide +kernel))) (hts (.initialized "java/lang/Math") (List.mem_of_getElem? (i := 10) (by decide +kernel))) (hts (.code Lib.Math.min.name Lib.Math.min.code 2 (some .int)) (List.mem_of_getElem? (i := 11) (by decide +kernel))) (Nat.le_of_ble_eq_true rfl) (Nat.le_of_ble_eq_true rfl) (Nat.le_of_ble_eq_true rfl) (Nat.le_of_ble_eq_true rfl) dJ7_copyOf_59c91_25 ?_
    refine lv_topr (show _ = nI n from (min_nn (by omega) (by omega))) ?_
    refine va_copyi hx hb (hml.trans hl.1.symm) hown (hts (.methodLink RJ7 150 arraycopyName) (List.mem_of_getElem? (i := 12) (by decide +kernel))) (hts (.native arraycopyName) (List.mem_of_getElem? (i := 13) (by decide +kernel))) (hts (.static arraycopyName) (List.mem_of_getElem? (i := 14) (by decide +kernel))) (hts (.initialized "java/lang/System") (List.mem_of_getElem? (i := 15) (by decide +kernel))) hK hP (hN.DA rfl (al_cons hA_a (al_cons hA_q15 al_nil))) hS 0 1 0 0 rfl rfl rfl rfl rfl (by decide) (by decide) (nI_nn9 (by omega)) (by rw [nI_clamp (by omega)]; show 0 + _ ≤ 2487; omega) (by rw [nI_clamp (by omega)]; show 0 + _ ≤ n; omega) (fun _ _ => rfl) (Nat.le_of_ble_eq_true rfl) (Nat.le_of_ble_eq_true rfl) dJ7_copyOf_59c91_28 (fun H locs hP _ hS => ?_)
    have hP := hP.cong 1 f rfl (fun k hk => cpy_n _ _ (by omega) hk)
    have hP : va_P (dC, dI) vwCl [(a, .inl (cI, 2487, .inl f)), (q15, .inl (cI, n, .inl f))] H := hP
    refine lv_aload_n hx hb dJ7_copyOf_59c91_31 rfl (lv_at hl 0 rfl) ?_
    refine W.widen (k := 1) (n := 2487) (by omega) (by omega) ?_
    exact W.aret (v := .ref q15) hx hb hr (Or.inr ⟨_, rfl⟩) (Or.inr ⟨_, rfl⟩) (fun t ht hW => ⟨⟨q15, q15, rfl, trivial, rfl, by show va_P _ _ _ t.heap ∧ _; rw [ht]; exact ⟨hP.sub [0, 1] rfl, hN.sub [1] (by decide) rfl, (al_cons hge_q15 al_nil)⟩⟩, hS.F ht⟩) hS.2.2 dJ7_copyOf_59c91_32
  · skip
    have c3 : n = 2487 := (nI_eq (a := n) (b := 2487) (by omega) (by omega)).mp c3
    obtain rfl : n = 2487 := c3
    refine lv_aload_n hx hb dJ7_copyOf_59c91_6 rfl (lv_at hl 0 rfl) ?_
    refine wa_clone hx hb (hml.trans hl.1.symm) hown (hts (.methodLink RJ7 316 ⟨"[I", "clone", "()Ljava/lang/Object;"⟩) (List.mem_of_getElem? (i := 1) (by decide +kernel))) (hts (.sameMethod "[I" "java/lang/Object" "clone" "()Ljava/lang/Object;") (List.mem_of_getElem? (i := 2) (by decide +kernel))) (hts (.native ⟨"java/lang/Object", "clone", "()Ljava/lang/Object;"⟩) (List.mem_of_getElem? (i := 3) (by decide +kernel))) (hts (.instanceMethod ⟨"java/lang/Object", "clone", "()Ljava/lang/Object;"⟩) (List.mem_of_getElem? (i := 4) (by decide +kernel))) (hts (.selects "[I" ⟨"[I", "clone", "()Ljava/lang/Object;"⟩ ⟨"java/lang/Object", "clone", "()Ljava/lang/Object;"⟩) (List.mem_of_getElem? (i := 5) (by decide +kernel))) hEX.1 hK hP hN rfl (hN.DA rfl (al_cons hA_a al_nil)) hS hAs hE.2.2.1 (fun _ h => h) 0 rfl (Nat.le_of_ble_eq_true rfl) (Nat.le_of_ble_eq_true rfl) (Nat.le_of_ble_eq_true rfl) (Nat.le_of_ble_eq_true rfl) dJ7_copyOf_59c91_7 (fun q7 H hge_q7 hP hN hS => ?_)
    have hA_q7 := hAs q7 hge_q7
    have hP : va_P (dC, dI) vwCl [(a, .inl (cI, 2487, .inl f)), (q7, .inl (cI, 2487, .inl f))] H := hP
    have hN : AD N0 [a, q7] := hN
    refine va_castA hx hb hown (hts (.classLink RJ7 317 "[I") (List.mem_of_getElem? (i := 6) (by decide +kernel))) hP 1 rfl (hK.2 0 _ rfl).2 dJ7_copyOf_59c91_10 ?_
    refine W.widen (k := 1) (n := 2487) (by omega) (by omega) ?_
    exact W.aret (v := .ref q7) hx hb hr (Or.inr ⟨_, rfl⟩) (Or.inr ⟨_, rfl⟩) (fun t ht hW => ⟨⟨q7, q7, rfl, trivial, rfl, by show va_P _ _ _ t.heap ∧ _; rw [ht]; exact ⟨hP.sub [0, 1] rfl, hN.sub [1] (by decide) rfl, (al_cons hge_q7 al_nil)⟩⟩, hS.F ht⟩) hS.2.2 dJ7_copyOf_59c91_13
set_option maxHeartbeats 4000000 in
set_option maxRecDepth 100000 in
theorem C_X1_copyOfBytes (l : Launch) (dC : Nat → ClassId) (dI : Nat → Nat → Nat) (cI cZ cP : ClassId) (N0 tO : Nat) (w0 wR wK wM : Nat) (S : WST) (n : Nat) (sz : Nat) (hn : n < 1000000) : Met l yX1_copyOfBytes wsX1_copyOfBytes ({ frames := 2, cells := 1, slots := 2487, locals := 54 } : Room) (GvA (dC, dI) cI cZ cP N0 tO [.ref w0, .int (nI n)] (fun H => va_P (dC, dI) vwCl [(w0, .inr (1, [.ref wR, .ref wK, .ref wM, .int (nI S.2.2.2)])), (wR, .inl (cI, 2487, .inl S.1)), (wK, .inl (cI, 5, .inl S.2.1)), (wM, .inl (cI, 3, .inl S.2.2.1))] H ∧ AD N0 [w0, wR, wK, wM] ∧ H.size = sz)) (va_Qr (fun (wN : Nat) => True) (fun (wN : Nat) (ra9 : Nat) (t : State) => ra9 = wN ∧ va_P (dC, dI) vwCl [(wR, .inl (cI, 2487, .inl S.1)), (wN, .inl (cI, min n 2487, .inl S.1))] t.heap ∧ AD N0 [wN] ∧ ∀ a9 ∈ [wN], sz ≤ a9) (inLN [wR] sz)) 1 2487 (inLN [wR] sz) := by
  refine Met.ofW (cc := cX1_copyOfBytes) (maxL := 2) (ret := (some (.array .int))) (by decide) rfl ?_
  intro p e s m args below meth c s₁ B hml hv
  obtain ⟨rfl, ⟨hE, hEX⟩, hP, hN, hsz⟩ := hv
  subst hsz
  have hx := B.exec
  have hb := B.bytes
  have hr := B.returns
  have hts := atoms_spec (ws := wsX1_copyOfBytes) B.pre
  have hown : s.vm.findClass RX1 = some m.cls := findClass_of_methodNamed B.named
  have hlocks := B.notSynchronized
  have hK := hE.1
  have hNS := hE.2.1
  have hS : va_S (inLN [wR] s.heap.size) s.heap s.heap [] := va_S.rf
  have hAN : ∀ q : Nat, (inLN [wR] s.heap.size) q → N0 ≤ q := fun q h => h.elim (fun h => hN.in [1] rfl q h) (fun h => Nat.le_trans hE.2.2.1 h)
  have hAs : ∀ q : Nat, s.heap.size ≤ q → (inLN [wR] s.heap.size) q := fun _ h => Or.inr h
  have hA_wR : (inLN [wR] s.heap.size) wR := Or.inl (List.mem_of_getElem? (i := 0) rfl)
  have hP : va_P (dC, dI) vwCl [(w0, .inr (1, [.ref wR, .ref wK, .ref wM, .int (nI S.2.2.2)])), (wR, .inl (cI, 2487, .inl S.1)), (wK, .inl (cI, 5, .inl S.2.1)), (wM, .inl (cI, 3, .inl S.2.2.1))] s.heap := hP
  have hinX1 : ∀ w ∈ wsX10, w ∈ wsX1_copyOfBytes := by decide +kernel
  have hl := lv_entry ([.ref w0, .int (nI n)]) (n := 2) (Nat.le_of_ble_eq_true rfl)
  rw [lg_entry_eq]
  generalize (lg_sl ([.ref w0, .int (nI n)]) ++ List.replicate (2 - (lg_sl ([.ref w0, .int (nI n)])).length) Slot.unset).toArray = ls at hl ⊢
  have hl : lv_has ls 2 [(0, .ref w0), (1, .int (nI n))] := hl
  refine lv_aload_n hx hb dX1_copyOfBytes_0 rfl (lv_at hl 0 rfl) ?_
  refine va_get (D := (dC, dI)) (ci := 1) (v := .ref wR) (C := RX1) (T := TX1) (N := 4) hx hb hts hinX1 hown hK hP 0 rfl rfl 0 (by decide) (hts (.fieldLink RX1 11 "GreyReel$PacketWriter" "row" "[I") (List.mem_of_getElem? (i := 1) (by decide +kernel))) (fun _ h9 => h9) rfl dX1_copyOfBytes_1 ?_
  refine lv_iload_n hx hb dX1_copyOfBytes_4 rfl (lv_at hl 1 rfl) ?_
  refine lv_sipush (v := 2488) hx hb dX1_copyOfBytes_5 (by decide +kernel) ?_
  refine vp_callSi (va_Run.run (va_runSN (As := [.int (nI n), .int 2488]) (rest := [.ref wR]) ⟨hx, hb, hml, hown, hts⟩ (C_X5_onRow l dC dI cI cZ cP N0 tO (nI n) 2488 ) ⟨va_cnB 2 hts gX1_copyOfBytes_X5_onRow_n25 rfl rfl rfl hNS.2.2.1.2 (hts (.initialized RX5) (List.mem_of_getElem? (i := 3) (by decide +kernel))) (by decide +kernel) ⟨Nat.le_of_ble_eq_true rfl, Nat.le_of_ble_eq_true rfl⟩, (hts (.static yX5_onRow) (List.mem_of_getElem? (i := 2) (by decide +kernel))), trivial⟩ ⟨Gv.blind, Gv.of (hE.S hS hAN) trivial⟩ rfl rfl hl.1 rfl (lv_room (Nat.le_of_ble_eq_true rfl)) dX1_copyOfBytes_8 ⟨Nat.le_of_ble_eq_true rfl, Nat.le_of_ble_eq_true rfl⟩)) (fun r_1 hr_1 => ?_)
  have hr_1 : r_1 = maxI 0 (minI (nI n) (2488 - 1)) := hr_1
  refine lv_topr (show _ = nI (min n 2487) from (hr_1.trans (row_len (by omega)))) ?_
  refine va_callr (va_runS (As := [.ref wR, .int (nI (min n 2487))]) (rest := []) ⟨hx, hb, hml, hown, hts⟩ (C_J7_copyOf_59c91 l dC dI cI cZ cP N0 tO wR (min n 2487) S.1 s.heap.size (Nat.min_le_right _ _)) (va_cwS 2 hts gX1_copyOfBytes_J7_copyOf_59c91 rfl rfl rfl (by decide +kernel) ⟨Nat.le_of_ble_eq_true rfl, Nat.le_of_ble_eq_true rfl⟩) ⟨GvA.blind, GvA.of (hE.S hS hAN) hEX ⟨(hP.sub [1] rfl), hN.sub [1] (by decide) rfl, rfl⟩⟩ rfl rfl hl.1 rfl (lv_room (Nat.le_of_ble_eq_true rfl)) dX1_copyOfBytes_11 ⟨Nat.le_of_ble_eq_true rfl, Nat.le_of_ble_eq_true rfl⟩) hS (fun q _ h => h.elim ((al_cons hA_wR al_nil) q) (fun h => hAs q (Nat.le_trans hS.1 h))) (fun q h => h.elim ((al_cons hA_wR al_nil) q) (fun h => hAs q (Nat.le_trans hS.1 h))) (fun u ra9 t H locs ht hvm hw hB hz1 hk1 hS2 => ?_)
  obtain ⟨a_3, eu⟩ : ∃ z, z = u := ⟨_, rfl⟩
  subst eu
  obtain ⟨era, hP9, hN9, hG9⟩ := hB
  replace era := era.symm
  subst era
  rw [ht] at hP9
  have hlt9 := va_P.lt9 hP rfl
  have hPo := va_back (L := [wR]) hP hN rfl [1] rfl rfl (fun q h1 h2 => hk1 q h1 (fun z => z.elim h2 (fun z => absurd z (Nat.not_le.mpr h1)))) (hP9.sub [0] rfl)
  have hP := hPo.app (hP9.sub [1] rfl)
  have hN := hN.appN hlt9 hN9 hG9
  have hge_a_3 := Nat.le_trans hS.1 (hG9 a_3 (List.mem_of_getElem? (i := 0) rfl))
  have hA_a_3 := hAs a_3 hge_a_3
  have hS := hS2
  clear hPo hP9 hN9 hG9 hlt9 hk1 hz1 hvm ht t
  have hP : va_P (dC, dI) vwCl [(w0, .inr (1, [.ref wR, .ref wK, .ref wM, .int (nI S.2.2.2)])), (wR, .inl (cI, 2487, .inl S.1)), (wK, .inl (cI, 5, .inl S.2.1)), (wM, .inl (cI, 3, .inl S.2.2.1)), (a_3, .inl (cI, (min n 2487), .inl S.1))] H := hP
  have hN : AD N0 [w0, wR, wK, wM, a_3] := hN
  have hw : True := hw
  have hwr_2 := hw
  refine W.widen (k := 1) (n := 2487) (by omega) (by omega) ?_
  exact W.aret (v := .ref a_3) hx hb hr (Or.inr ⟨_, rfl⟩) (Or.inr ⟨_, rfl⟩) (fun t ht hW => ⟨⟨a_3, a_3, rfl, trivial, rfl, by show va_P _ _ _ t.heap ∧ _; rw [ht]; exact ⟨hP.sub [1, 4] rfl, hN.sub [4] (by decide) rfl, (al_cons hge_a_3 al_nil)⟩⟩, hS.F ht⟩) hS.2.2 dX1_copyOfBytes_14
