/-- a coded picture: the addresses of its cells, and what they hold -/
abbrev PA : Type := Nat × Nat × Nat × Nat × Nat × Nat × Nat × Nat × Nat × Nat
abbrev PC : Type := (Nat → Nat) × (Nat → Int32) × (Nat → Int32) × (Nat → Int32) × (Nat → Int32) × (Nat → Int32) × (Nat → Nat) × (Nat → Int32) × (Nat → Int32) × Nat × Int32 × Int32 × Int32 × Int32 × Int32
abbrev PQ : Type := PA × PC
def picW (cI cZ : ClassId) : PQ → va_W
  | ((r0, rK, rX, rY, rC, rV, rR, rU, rG, rW), (kd, fx, fy, fp, fv, fl, ub, fg, fw, len, num, q, er, ky, sm)) =>
    [(r0, .inr (2, [.ref rK, .ref rX, .ref rY, .ref rC, .ref rV, .ref rR, .ref rU, .ref rG, .ref rW, .int num, .int q, .int er, .int ky, .int sm])), (rK, .inl (cI, 12, .inl (fun k => nI (kd k)))), (rX, .inl (cI, 12, .inl fx)), (rY, .inl (cI, 12, .inl fy)), (rC, .inl (cI, 12, .inl fp)), (rV, .inl (cI, 768, .inl fv)), (rR, .inl (cI, 768, .inl fl)), (rU, .inl (cI, 3, .inl (fun k => nI (ub k)))), (rG, .inl (cZ, 3, .inl fg)), (rW, .inl (cI, len, .inl fw))]
def picA : PQ → List Nat
  | ((r0, rK, rX, rY, rC, rV, rR, rU, rG, rW), _) => [r0, rK, rX, rY, rC, rV, rR, rU, rG, rW]
def TP (D : va_G) (cI cZ : ClassId) (pf : Nat → PQ) (n : Nat) (H : Heap) : Prop := ∀ i, i < n → va_P D vwCl (picW cI cZ (pf i)) H
def tA (pf : Nat → PQ) : Nat → List Nat
  | 0 => []
  | n + 1 => picA (pf n) ++ tA pf n
theorem picW_A (cI cZ : ClassId) (q : PQ) : (picW cI cZ q).map (fun x => x.1) = picA q := by
  obtain ⟨⟨r0, rK, rX, rY, rC, rV, rR, rU, rG, rW⟩, ⟨kd, fx, fy, fp, fv, fl, ub, fg, fw, len, num, q, er, ky, sm⟩⟩ := q
  rfl
theorem tA_mem {pf : Nat → PQ} : ∀ {n i : Nat}, i < n → ∀ a ∈ picA (pf i), a ∈ tA pf n
  | 0, _, h => absurd h (Nat.not_lt_zero _)
  | n + 1, i, h => fun a ha => by
    show a ∈ picA (pf n) ++ tA pf n
    rcases Nat.lt_or_ge i n with z | z
    · exact List.mem_append_right _ (tA_mem z a ha)
    · rw [show i = n by omega] at ha
      exact List.mem_append_left _ ha
theorem tA_sub {pf : Nat → PQ} : ∀ {n i : Nat}, i < n → (picA (pf i)).Sublist (tA pf n)
  | 0, _, h => absurd h (Nat.not_lt_zero _)
  | n + 1, i, h => by
    show (picA (pf i)).Sublist (picA (pf n) ++ tA pf n)
    rcases Nat.lt_or_ge i n with z | z
    · exact (tA_sub z).trans (List.sublist_append_right _ _)
    · rw [show i = n by omega]
      exact List.sublist_append_left _ _
theorem tA_c {pf pg : Nat → PQ} : ∀ {n : Nat}, (∀ i, i < n → pf i = pg i) → tA pf n = tA pg n
  | 0, _ => rfl
  | n + 1, h => by
    show picA (pf n) ++ tA pf n = picA (pg n) ++ tA pg n
    rw [h n (by omega), tA_c (n := n) (fun i hi => h i (by omega))]
theorem AD.left {N0 : Nat} {as bs : List Nat} (h : AD N0 (as ++ bs)) : AD N0 as := ⟨(List.pairwise_append.mp h.1).1, fun a ha => h.2 a (List.mem_append_left _ ha)⟩
/-- with one picture out of all -/
theorem AD.pick {N0 : Nat} {as : List Nat} {pf : Nat → PQ} {n i : Nat} (h : AD N0 (as ++ tA pf n)) (hi : i < n) : AD N0 (as ++ picA (pf i)) :=
  ⟨h.1.sublist ((List.Sublist.refl as).append (tA_sub hi)), fun a ha => h.2 a (by
    rcases List.mem_append.mp ha with z | z
    · exact List.mem_append_left _ z
    · exact List.mem_append_right _ (tA_mem hi a z))⟩
theorem AD.subT {N0 : Nat} {as bs tl : List Nat} (h : AD N0 (as ++ tl)) (is : List Nat) (hn : va_nd is = true) (hs : is.map (fun i => as[i]?) = bs.map some) : AD N0 (bs ++ tl) := by
  have h1 := h.left.sub is hn hs
  obtain ⟨g1, g2, g3⟩ := List.pairwise_append.mp h.1
  have hsub : ∀ b ∈ bs, b ∈ as := by
    intro b hb
    obtain ⟨k, hk⟩ := List.getElem?_of_mem hb
    have e : (is.map (fun i => as[i]?))[k]? = some (some b) := by rw [hs, List.getElem?_map, hk]; rfl
    rw [List.getElem?_map] at e
    cases hi : is[k]? with
    | none => rw [hi] at e; cases e
    | some i => rw [hi] at e; exact List.mem_of_getElem? (Option.some.inj e)
  exact ⟨List.pairwise_append.mpr ⟨h1.1, g2, fun a ha b hb => g3 a (hsub a ha) b hb⟩, fun a ha => (List.mem_append.mp ha).elim (h1.2 a) (fun z => h.2 a (List.mem_append_right _ z))⟩
/-- with new cells -/
theorem AD.newT {N0 sz : Nat} {as bs tl : List Nat} (h : AD N0 (as ++ tl)) (hlt : ∀ a ∈ as, a < sz) (hlt2 : ∀ a ∈ tl, a < sz) (hb : AD N0 bs) (hge : ∀ b ∈ bs, sz ≤ b) : AD N0 ((as ++ bs) ++ tl) := by
  have h1 := h.left.appN hlt hb hge
  obtain ⟨g1, g2, g3⟩ := List.pairwise_append.mp h.1
  refine ⟨List.pairwise_append.mpr ⟨h1.1, g2, fun a ha b hb2 e => ?_⟩, fun a ha => (List.mem_append.mp ha).elim (h1.2 a) (fun z => h.2 a (List.mem_append_right _ z))⟩
  rcases List.mem_append.mp ha with z | z
  · exact g3 a z b hb2 e
  · have := hge a z
    have := hlt2 b hb2
    omega
theorem TP.lt {D : va_G} {cI cZ : ClassId} {pf : Nat → PQ} {H : Heap} : ∀ {n : Nat}, TP D cI cZ pf n H → ∀ a ∈ tA pf n, a < H.size
  | 0, _, a, ha => absurd ha List.not_mem_nil
  | n + 1, h, a, ha => by
    rcases List.mem_append.mp (show a ∈ picA (pf n) ++ tA pf n from ha) with z | z
    · exact (h n (by omega)).lt9 (picW_A cI cZ _) a z
    · exact TP.lt (n := n) (fun i hi => h i (by omega)) a z
/-- the pictures stay, where a call writes other cells alone -/
theorem TP.kept {D : va_G} {cI cZ : ClassId} {pf : Nat → PQ} {n : Nat} {H H1 : Heap} {N0 : Nat} {bs L : List Nat} (hT : TP D cI cZ pf n H) (hN : AD N0 (bs ++ tA pf n)) (is : List Nat) (hL : is.map (fun i => bs[i]?) = L.map some) (hk : ∀ q : Nat, q < H.size → ¬ q ∈ L → H1[q]? = H[q]?) : TP D cI cZ pf n H1 := by
  intro i hi
  refine (hT i hi).kept (fun k x hx => hk x.1 (hT i hi k x hx).lt (fun hxL => ?_))
  have hxA : x.1 ∈ tA pf n := tA_mem hi _ (by rw [← picW_A cI cZ]; exact List.mem_map_of_mem (List.mem_of_getElem? hx))
  obtain ⟨g1, g2, g3⟩ := List.pairwise_append.mp hN.1
  exact g3 x.1 (inL_sub is hL x.1 hxL) x.1 hxA rfl
theorem TP.c {D : va_G} {cI cZ : ClassId} {pf pg : Nat → PQ} {n : Nat} {H : Heap} (hT : TP D cI cZ pf n H) (h : ∀ i, i < n → pf i = pg i) : TP D cI cZ pg n H := fun i hi => by rw [← h i hi]; exact hT i hi
-- sums over all pictures
def qBy : PQ → Nat
  | (_, (_, _, _, _, _, _, ub, _, _, _, _, _, _, _, _)) => fbN ub 3
def qEr : PQ → Int32
  | (_, (_, _, _, _, _, _, _, _, _, _, _, _, er, _, _)) => er
def qDg : PQ → Int64 → Int64
  | (_, (kd, fx, fy, _, fv, _, ub, fg, fw, len, _, q, er, ky, _)), d => dgO kd fx fy fv ub fg fw len q er ky d
def qOk : PQ → Prop
  | (_, (_, _, _, _, _, _, ub, _, _, len, _, _, er, _, _)) => (∀ j, j < 3 → ub j < 1048576) ∧ len < 1048576 ∧ 0 ≤ er.toInt ∧ er.toInt ≤ 49939200
def byS (pf : Nat → PQ) : Nat → Nat
  | 0 => 0
  | n + 1 => byS pf n + qBy (pf n)
def erS (pf : Nat → PQ) : Nat → Int64
  | 0 => 0
  | n + 1 => erS pf n + (qEr (pf n)).toInt64
def dgS (pf : Nat → PQ) (d : Int64) : Nat → Int64
  | 0 => d
  | n + 1 => qDg (pf n) (dgS pf d n)
theorem byS_c {pf pg : Nat → PQ} : ∀ {n : Nat}, (∀ i, i < n → pf i = pg i) → byS pf n = byS pg n
  | 0, _ => rfl
  | n + 1, h => by
    show byS pf n + qBy (pf n) = byS pg n + qBy (pg n)
    rw [h n (by omega), byS_c (n := n) (fun i hi => h i (by omega))]
theorem erS_pos {pf : Nat → PQ} : ∀ {n : Nat}, n ≤ 24 → (∀ i, i < n → qOk (pf i)) → 0 ≤ (erS pf n).toInt ∧ (erS pf n).toInt ≤ n * 49939200
  | 0, _, _ => by show 0 ≤ (0 : Int64).toInt ∧ (0 : Int64).toInt ≤ _; rw [show (0 : Int64).toInt = 0 by decide]; omega
  | n + 1, hn, h => by
    have h1 := erS_pos (n := n) (by omega) (fun i hi => h i (by omega))
    have h2 := h n (by omega)
    have h3 : 0 ≤ (qEr (pf n)).toInt ∧ (qEr (pf n)).toInt ≤ 49939200 := by
      generalize pf n = w at h2 ⊢
      obtain ⟨⟨r0, rK, rX, rY, rC, rV, rR, rU, rG, rW⟩, ⟨kd, fx, fy, fp, fv, fl, ub, fg, fw, len, num, q, er, ky, sm⟩⟩ := w
      exact h2.2.2
    show 0 ≤ (erS pf n + (qEr (pf n)).toInt64).toInt ∧ (erS pf n + (qEr (pf n)).toInt64).toInt ≤ _
    have e : (erS pf n + (qEr (pf n)).toInt64).toInt = (erS pf n).toInt + (qEr (pf n)).toInt := by
      rw [Int64.toInt_add, Int32.toInt_toInt64]
      exact Int.bmod_eq_of_le (by omega) (by omega)
    rw [e]
    omega
def dgH (cd : Nat) (st : Int32) (shn : Nat) (dr by9 : Int32) : Int64 := ((((58019 * 31 + (nI cd).toInt64) * 31 + st.toInt64) * 31 + (nI shn).toInt64) * 31 + dr.toInt64) * 31 + by9.toInt64
set_option maxHeartbeats 4000000 in
set_option maxRecDepth 100000 in
theorem C_X5_bytesOfAll (l : Launch) (dC : Nat → ClassId) (dI : Nat → Nat → Nat) (cI cZ cP : ClassId) (N0 tO : Nat) (g0 gC gR c0 w0 v0 gB p0 cd : Nat) (db st bw ki sg ak : Int32) (fr : Nat → Option Nat) (pf : Nat → PQ) (hcd : cd ≤ 24) (hfrs : ∀ j9, j9 < cd → fr j9 = some (pf j9).1.1) (hok : ∀ j9, j9 < cd → qOk (pf j9)) : Met l yX5_bytesOfAll wsX5_bytesOfAll ({ frames := 3, cells := 0, slots := 0, locals := 64 } : Room) (Gv (dC, dI) cI cZ cP N0 tO [.ref g0] (fun H => va_P (dC, dI) vwCl [(g0, .inr (5, [.ref gC, .ref gR, .ref c0, .ref w0, .ref v0, .ref gB, .ref p0, .int (nI cd), .int db, .int st, .int bw, .int ki, .int sg, .int ak])), (gR, .inl (cP, 24, .inr (.inr (.inr (.inr fr)))))] H ∧ TP (dC, dI) cI cZ pf cd H)) (vp_Si (fun r : Int32 => r = nI (byS pf cd))) 0 0 (fun _ => False) := by
  refine Met.ofW (cc := cX5_bytesOfAll) (maxL := 3) (ret := (some .int)) (by decide) rfl ?_
  intro p e s m args below meth c s₁ B hml hv
  obtain ⟨rfl, hE, hP, hT⟩ := hv
  have hx := B.exec
  have hb := B.bytes
  have hr := B.returns
  have hts := atoms_spec (ws := wsX5_bytesOfAll) B.pre
  have hown : s.vm.findClass RX5 = some m.cls := findClass_of_methodNamed B.named
  have hlocks := B.notSynchronized
  have hK := hE.1
  have hNS := hE.2.1
  have hP : va_P (dC, dI) vwCl [(g0, .inr (5, [.ref gC, .ref gR, .ref c0, .ref w0, .ref v0, .ref gB, .ref p0, .int (nI cd), .int db, .int st, .int bw, .int ki, .int sg, .int ak])), (gR, .inl (cP, 24, .inr (.inr (.inr (.inr fr)))))] s.heap := hP
  have hinX5 : ∀ w ∈ wsX50, w ∈ wsX5_bytesOfAll := by decide +kernel
  have hl := lv_entry ([.ref g0]) (n := 3) (Nat.le_of_ble_eq_true rfl)
  rw [lg_entry_eq]
  generalize (lg_sl ([.ref g0]) ++ List.replicate (3 - (lg_sl ([.ref g0])).length) Slot.unset).toArray = ls at hl ⊢
  have hl : lv_has ls 3 [(0, .ref g0)] := hl
  refine lv_iconst (v := 0) hx hb dX5_bytesOfAll_0 (by decide) ?_
  refine lv_istore_n (lv' := [(1, .int 0), (0, .ref g0)]) hx hb dX5_bytesOfAll_1 rfl hl (by decide) rfl (fun ls hl => ?_)
  refine lv_iconst (v := 0) hx hb dX5_bytesOfAll_2 (by decide) ?_
  refine lv_istore_n (lv' := [(2, .int 0), (1, .int 0), (0, .ref g0)]) hx hb dX5_bytesOfAll_3 rfl hl (by decide) rfl (fun ls hl => ?_)
  have L4 : ∀ (n4 : Nat) (i : Nat) (x1 : Int32), (i ≤ cd) → cd - i < n4 → x1 = (nI (byS pf i)) → ∀ (ls : Array Slot), lv_has ls 3 [(2, .int (nI i)), (1, .int x1), (0, .ref g0)] → W p l e (headSpec wsX5_bytesOfAll ({ frames := 3, cells := 0, slots := 0, locals := 64 } : Room)).room s m ([.ref g0] : List Value).toArray below meth c s.heap [] 0 0 (MQ below (vp_Si (fun r : Int32 => r = nI (byS pf cd))) ([.ref g0] : List Value).toArray s 0 0 (fun _ => False)) (F0 m 4 ls []) := by
    intro n4
    induction n4 with
    | zero => intro i x1 hi hz; exact absurd hz (Nat.not_lt_zero _)
    | succ n4 ih4 =>
      intro i x1 hi hfu ex1 ls hl
      refine lv_iload_n hx hb dX5_bytesOfAll_4 rfl (lv_at hl 0 rfl) ?_
      refine lv_aload_n hx hb dX5_bytesOfAll_5 rfl (lv_at hl 2 rfl) ?_
      refine va_get (D := (dC, dI)) (ci := 5) (v := .int (nI cd)) (C := RX5) (T := TX5) (N := 14) hx hb hts hinX5 hown hK hP 0 rfl rfl 7 (by decide) (hts (.fieldLink RX5 48 "GreyReel" "coded" "I") (List.mem_of_getElem? (i := 1) (by decide +kernel))) (fun _ h9 => h9) rfl dX5_bytesOfAll_6 ?_
      refine lv_icmp_ge (tgt := 29) hx hb dX5_bytesOfAll_9 (by decide) (fun c9 => ?_) (fun c9 => ?_)
      · skip
        have c9 : cd ≤ i := (nI_leI (a := cd) (b := i) (by omega) (by omega)).mp c9
        have hic : i = cd := by omega
        refine lv_iload_n hx hb dX5_bytesOfAll_29 rfl (lv_at hl 1 rfl) ?_
        exact W.iret (v := x1) hx hb hr (fun t ht hW => ⟨x1, rfl, (by rw [ex1, hic]), ht⟩) (fun _ h => by cases h) dX5_bytesOfAll_30
      · skip
        have c9 : ¬ cd ≤ i := fun z => c9 ((nI_leI (a := cd) (b := i) (by omega) (by omega)).mpr z)
        obtain ⟨⟨⟨u0, uK, uX, uY, uC, uV, uR, uU, uG, uW⟩, ⟨kd, fx, fy, fp, fv, f9, ub, fg, fw, len, unum, uq, uer, uky, usm⟩⟩, hpi⟩ : ∃ q9, q9 = pf i := ⟨_, rfl⟩
        have hTi := hT i (by omega)
        have hfri := hfrs i (by omega)
        have hoki := hok i (by omega)
        rw [← hpi] at hTi hfri hoki
        have hP := hP.app hTi
        have hP : va_P (dC, dI) vwCl [(g0, .inr (5, [.ref gC, .ref gR, .ref c0, .ref w0, .ref v0, .ref gB, .ref p0, .int (nI cd), .int db, .int st, .int bw, .int ki, .int sg, .int ak])), (gR, .inl (cP, 24, .inr (.inr (.inr (.inr fr))))), (u0, .inr (2, [.ref uK, .ref uX, .ref uY, .ref uC, .ref uV, .ref uR, .ref uU, .ref uG, .ref uW, .int unum, .int uq, .int uer, .int uky, .int usm])), (uK, .inl (cI, 12, .inl (fun k => nI (kd k)))), (uX, .inl (cI, 12, .inl fx)), (uY, .inl (cI, 12, .inl fy)), (uC, .inl (cI, 12, .inl fp)), (uV, .inl (cI, 768, .inl fv)), (uR, .inl (cI, 768, .inl f9)), (uU, .inl (cI, 3, .inl (fun k => nI (ub k)))), (uG, .inl (cZ, 3, .inl fg)), (uW, .inl (cI, len, .inl fw))] s.heap := hP
        refine lv_iload_n hx hb dX5_bytesOfAll_12 rfl (lv_at hl 1 rfl) ?_
        refine lv_aload_n hx hb dX5_bytesOfAll_13 rfl (lv_at hl 2 rfl) ?_
        refine lv_iload_n hx hb dX5_bytesOfAll_14 rfl (lv_at hl 0 rfl) ?_
        refine va_csq (va_Run.run (va_runV (As := [.int (nI i)]) (rest := [.int x1]) ⟨hx, hb, hml, hown, hts⟩ (C_X5_pictureAt l dC dI cI cZ cP N0 tO g0 gC gR c0 w0 v0 gB p0 cd db st bw ki sg ak fr i u0 (by omega) hcd hfri) (cwV 1 hts gX5_bytesOfAll_X5_pictureAt rfl rfl rfl (by decide +kernel) ⟨Nat.le_of_ble_eq_true rfl, Nat.le_of_ble_eq_true rfl⟩) ⟨Gv.blind, va_recv hK hP (ci := 5) (q0 := 0) rfl rfl, Gv.of hE (hP.sub [0, 1] rfl)⟩ rfl rfl hl.1 rfl (lv_room (Nat.le_of_ble_eq_true rfl)) dX5_bytesOfAll_15 ⟨Nat.le_of_ble_eq_true rfl, Nat.le_of_ble_eq_true rfl⟩)) (fun r_1 hr_1 => ?_)
        refine lv_topv (show va_rf r_1 = .ref u0 from by rw [hr_1] <;> rfl) ?_
        refine vp_callSi (va_Run.run (va_runV (As := []) (rest := [.int x1]) ⟨hx, hb, hml, hown, hts⟩ (C_X2_bytesInAll l dC dI cI cZ cP N0 tO u0 uK uX uY uC uV uR uU uG uW unum uq uer uky usm ub hoki.1) (cwV 0 hts gX5_bytesOfAll_X2_bytesInAll rfl rfl rfl (by decide +kernel) ⟨Nat.le_of_ble_eq_true rfl, Nat.le_of_ble_eq_true rfl⟩) ⟨Gv.blind, va_recv hK hP (ci := 2) (q0 := 2) rfl rfl, Gv.of hE (hP.sub [2, 9] rfl)⟩ rfl rfl hl.1 rfl (lv_room (Nat.le_of_ble_eq_true rfl)) dX5_bytesOfAll_18 ⟨Nat.le_of_ble_eq_true rfl, Nat.le_of_ble_eq_true rfl⟩)) (fun r_2 hr_2 => ?_)
        have hr_2 : r_2 = nI (fbN ub 3) := hr_2
        refine lv_topr hr_2 ?_
        refine lv_iadd hx hb dX5_bytesOfAll_21 ?_
        refine lv_topi (fun x_3 ex_3 => ?_)
        refine lv_istore_n (lv' := [(1, .int x_3), (2, .int (nI i)), (0, .ref g0)]) hx hb dX5_bytesOfAll_22 rfl hl (by decide) rfl (fun ls hl => ?_)
        refine lv_iinc (v := nI (i + 1)) (lv' := [(2, .int (nI (i + 1))), (1, .int x_3), (0, .ref g0)]) hx hb dX5_bytesOfAll_23 hl (k := 1) rfl (show nI i + Int32.ofInt 1 = nI (i + 1) from nI_add _ _) (by decide) rfl (fun ls hl => ?_)
        refine lv_goto (tgt := 4) hx hb dX5_bytesOfAll_26 (by decide) ?_
        exact ih4 (i + 1) x_3 (by omega) (by omega) (by rw [ex_3, ex1, nI_add]; show _ = nI (byS pf i + qBy (pf i)); rw [← hpi]; rfl) _ (lv_sub hl [0, 1, 2] rfl)
  exact L4 (cd + 1) 0 0 (by omega) (Nat.lt_succ_self _) rfl _ (lv_sub hl [0, 1, 2] rfl)
set_option maxHeartbeats 4000000 in
set_option maxRecDepth 100000 in
theorem C_X5_meanError (l : Launch) (dC : Nat → ClassId) (dI : Nat → Nat → Nat) (cI cZ cP : ClassId) (N0 tO : Nat) (g0 gC gR c0 w0 v0 gB p0 cd : Nat) (db st bw ki sg ak : Int32) (fr : Nat → Option Nat) (pf : Nat → PQ) (h8 : cd = 8) (hcd : cd ≤ 24) (hfrs : ∀ j9, j9 < cd → fr j9 = some (pf j9).1.1) (hok : ∀ j9, j9 < cd → qOk (pf j9)) : MetD lw_cs l yX5_meanError wsX5_meanError ({ frames := 2, cells := 0, slots := 0, locals := 43 } : Room) (Gv (dC, dI) cI cZ cP N0 tO [.ref g0] (fun H => va_P (dC, dI) vwCl [(g0, .inr (5, [.ref gC, .ref gR, .ref c0, .ref w0, .ref v0, .ref gB, .ref p0, .int (nI cd), .int db, .int st, .int bw, .int ki, .int sg, .int ak])), (gR, .inl (cP, 24, .inr (.inr (.inr (.inr fr)))))] H ∧ TP (dC, dI) cI cZ pf cd H)) (va_Qd (fun (r : UInt64) (_ : Unit) => ¬ Op.cmpValue (FP.dcmp r FP.dconst0) CmpOp.l < 0) (fun _ _ => True) (fun _ => False)) 0 0 (fun _ => False) := by
  refine MetD.ofW (cc := cX5_meanError) (maxL := 4) (ret := (some .double)) (by decide) rfl ?_
  intro p e s m args below meth c s₁ B hml hv hd0
  obtain ⟨rfl, hE, hP, hT⟩ := hv
  have hx := B.exec
  have hb := B.bytes
  have hr := B.returns
  have hts := atoms_spec (ws := wsX5_meanError) B.pre
  have hown : s.vm.findClass RX5 = some m.cls := findClass_of_methodNamed B.named
  have hlocks := B.notSynchronized
  have hK := hE.1
  have hNS := hE.2.1
  have hP : va_P (dC, dI) vwCl [(g0, .inr (5, [.ref gC, .ref gR, .ref c0, .ref w0, .ref v0, .ref gB, .ref p0, .int (nI cd), .int db, .int st, .int bw, .int ki, .int sg, .int ak])), (gR, .inl (cP, 24, .inr (.inr (.inr (.inr fr)))))] s.heap := hP
  have hinX2 : ∀ w ∈ wsX20, w ∈ wsX5_meanError := by decide +kernel
  have hinX5 : ∀ w ∈ wsX50, w ∈ wsX5_meanError := by decide +kernel
  have hl := lv_entry ([.ref g0]) (n := 4) (Nat.le_of_ble_eq_true rfl)
  rw [lg_entry_eq]
  generalize (lg_sl ([.ref g0]) ++ List.replicate (4 - (lg_sl ([.ref g0])).length) Slot.unset).toArray = ls at hl ⊢
  have hl : lv_has ls 4 [(0, .ref g0)] := hl
  refine lv_aload_n hx hb dX5_meanError_0 rfl (lv_at hl 0 rfl) ?_
  refine va_get (D := (dC, dI)) (ci := 5) (v := .int (nI cd)) (C := RX5) (T := TX5) (N := 14) hx hb hts hinX5 hown hK hP 0 rfl rfl 7 (by decide) (hts (.fieldLink RX5 48 "GreyReel" "coded" "I") (List.mem_of_getElem? (i := 1) (by decide +kernel))) (fun _ h9 => h9) rfl dX5_meanError_1 ?_
  refine lv_iconst (v := 1) hx hb dX5_meanError_4 (by decide) ?_
  refine lv_icmp_ge (tgt := 10) hx hb dX5_meanError_5 (by decide) (fun c5 => ?_) (fun c5 => ?_)
  · skip
    have c5 : 1 ≤ cd := (nI_leI (a := 1) (b := cd) (by omega) (by omega)).mp c5
    refine lv_lconst (v := 0) hx hb dX5_meanError_10 (by decide) ?_
    refine lv_lstore_n (lv' := [(1, .long 0), (0, .ref g0)]) hx hb dX5_meanError_11 rfl hl (by decide) rfl (fun ls hl => ?_)
    refine lv_iconst (v := 0) hx hb dX5_meanError_12 (by decide) ?_
    refine lv_istore_n (lv' := [(3, .int 0), (1, .long 0), (0, .ref g0)]) hx hb dX5_meanError_13 rfl hl (by decide) rfl (fun ls hl => ?_)
    have L14 : ∀ (n14 : Nat) (i : Nat) (x1 : Int64), (i ≤ cd) → cd - i < n14 → x1 = (erS pf i) → ∀ (ls : Array Slot), lv_has ls 4 [(3, .int (nI i)), (1, .long x1), (0, .ref g0)] → W p l e (headSpec wsX5_meanError ({ frames := 2, cells := 0, slots := 0, locals := 43 } : Room)).room s m ([.ref g0] : List Value).toArray below meth c s.heap [] 0 0 (MQD lw_cs below (va_Qd (fun (r : UInt64) (_ : Unit) => ¬ Op.cmpValue (FP.dcmp r FP.dconst0) CmpOp.l < 0) (fun _ _ => True) (fun _ => False)) ([.ref g0] : List Value).toArray s 0 0 (fun _ => False)) (F0 m 14 ls []) := by
      intro n14
      induction n14 with
      | zero => intro i x1 hi hz; exact absurd hz (Nat.not_lt_zero _)
      | succ n14 ih14 =>
        intro i x1 hi hfu ex1 ls hl
        refine lv_iload_n hx hb dX5_meanError_14 rfl (lv_at hl 0 rfl) ?_
        refine lv_aload_n hx hb dX5_meanError_15 rfl (lv_at hl 2 rfl) ?_
        refine va_get (D := (dC, dI)) (ci := 5) (v := .int (nI cd)) (C := RX5) (T := TX5) (N := 14) hx hb hts hinX5 hown hK hP 0 rfl rfl 7 (by decide) (hts (.fieldLink RX5 48 "GreyReel" "coded" "I") (List.mem_of_getElem? (i := 1) (by decide +kernel))) (fun _ h9 => h9) rfl dX5_meanError_16 ?_
        refine lv_icmp_ge (tgt := 40) hx hb dX5_meanError_19 (by decide) (fun c19 => ?_) (fun c19 => ?_)
        · skip
          have c19 : cd ≤ i := (nI_leI (a := cd) (b := i) (by omega) (by omega)).mp c19
          have hic : i = cd := by omega
          refine lv_lload_n hx hb dX5_meanError_40 rfl (lv_at hl 1 rfl) ?_
          refine lv_l2d hx hb dX5_meanError_41 ?_
          refine lv_aload_n hx hb dX5_meanError_42 rfl (lv_at hl 2 rfl) ?_
          refine va_get (D := (dC, dI)) (ci := 5) (v := .int (nI cd)) (C := RX5) (T := TX5) (N := 14) hx hb hts hinX5 hown hK hP 0 rfl rfl 7 (by decide) (hts (.fieldLink RX5 48 "GreyReel" "coded" "I") (List.mem_of_getElem? (i := 1) (by decide +kernel))) (fun _ h9 => h9) rfl dX5_meanError_43 ?_
          refine lv_i2d hx hb dX5_meanError_46 ?_
          refine W.base ?_
          refine lv_ddiv_any hd0 lw_bits hx hb dX5_meanError_47 (fun rd d1 hal hd1 => ?_)
          refine W.endD hd1 ?_
          exact W.dret hx hb hr (fun t ht hW => ⟨⟨rd, (), rfl, (by rw [ex1, hic, h8] at hal; exact mean_cmp (erS_pos (n := 8) (by omega) (fun j9 hj => hok j9 (by omega))).1 hal), trivial⟩, (va_S.rf (A := fun _ => False) (H0 := s.heap)).F ht⟩) (fun q hq => absurd hq List.not_mem_nil) dX5_meanError_48
        · skip
          have c19 : ¬ cd ≤ i := fun z => c19 ((nI_leI (a := cd) (b := i) (by omega) (by omega)).mpr z)
          obtain ⟨⟨⟨u0, uK, uX, uY, uC, uV, uR, uU, uG, uW⟩, ⟨kd, fx, fy, fp, fv, f9, ub, fg, fw, len, unum, uq, uer, uky, usm⟩⟩, hpi⟩ : ∃ q9, q9 = pf i := ⟨_, rfl⟩
          have hTi := hT i (by omega)
          have hfri := hfrs i (by omega)
          have hoki := hok i (by omega)
          rw [← hpi] at hTi hfri hoki
          have hP := hP.app hTi
          have hP : va_P (dC, dI) vwCl [(g0, .inr (5, [.ref gC, .ref gR, .ref c0, .ref w0, .ref v0, .ref gB, .ref p0, .int (nI cd), .int db, .int st, .int bw, .int ki, .int sg, .int ak])), (gR, .inl (cP, 24, .inr (.inr (.inr (.inr fr))))), (u0, .inr (2, [.ref uK, .ref uX, .ref uY, .ref uC, .ref uV, .ref uR, .ref uU, .ref uG, .ref uW, .int unum, .int uq, .int uer, .int uky, .int usm])), (uK, .inl (cI, 12, .inl (fun k => nI (kd k)))), (uX, .inl (cI, 12, .inl fx)), (uY, .inl (cI, 12, .inl fy)), (uC, .inl (cI, 12, .inl fp)), (uV, .inl (cI, 768, .inl fv)), (uR, .inl (cI, 768, .inl f9)), (uU, .inl (cI, 3, .inl (fun k => nI (ub k)))), (uG, .inl (cZ, 3, .inl fg)), (uW, .inl (cI, len, .inl fw))] s.heap := hP
          refine lv_lload_n hx hb dX5_meanError_22 rfl (lv_at hl 1 rfl) ?_
          refine lv_aload_n hx hb dX5_meanError_23 rfl (lv_at hl 2 rfl) ?_
          refine lv_iload_n hx hb dX5_meanError_24 rfl (lv_at hl 0 rfl) ?_
          refine va_csq (va_Run.run (va_runV (As := [.int (nI i)]) (rest := [.long x1]) ⟨hx, hb, hml, hown, hts⟩ (C_X5_pictureAt l dC dI cI cZ cP N0 tO g0 gC gR c0 w0 v0 gB p0 cd db st bw ki sg ak fr i u0 (by omega) hcd hfri) (cwV 1 hts gX5_meanError_X5_pictureAt rfl rfl rfl (by decide +kernel) ⟨Nat.le_of_ble_eq_true rfl, Nat.le_of_ble_eq_true rfl⟩) ⟨Gv.blind, va_recv hK hP (ci := 5) (q0 := 0) rfl rfl, Gv.of hE (hP.sub [0, 1] rfl)⟩ rfl rfl hl.1 rfl (lv_room (Nat.le_of_ble_eq_true rfl)) dX5_meanError_25 ⟨Nat.le_of_ble_eq_true rfl, Nat.le_of_ble_eq_true rfl⟩)) (fun r_1 hr_1 => ?_)
          refine lv_topv (show va_rf r_1 = .ref u0 from by rw [hr_1] <;> rfl) ?_
          refine va_get (D := (dC, dI)) (ci := 2) (v := .int uer) (C := RX2) (T := TX2) (N := 14) hx hb hts hinX2 hown hK hP 2 rfl rfl 11 (by decide) (hts (.fieldLink RX5 189 "GreyReel$Picture" "error" "I") (List.mem_of_getElem? (i := 2) (by decide +kernel))) (fun _ h9 => h9) rfl dX5_meanError_28 ?_
          refine lv_i2l (v := uer.toInt64) hx hb dX5_meanError_31 rfl ?_
          refine lv_ladd hx hb dX5_meanError_32 ?_
          refine lv_topl (fun x_2 ex_2 => ?_)
          refine lv_lstore_n (lv' := [(1, .long x_2), (3, .int (nI i)), (0, .ref g0)]) hx hb dX5_meanError_33 rfl hl (by decide) rfl (fun ls hl => ?_)
          refine lv_iinc (v := nI (i + 1)) (lv' := [(3, .int (nI (i + 1))), (1, .long x_2), (0, .ref g0)]) hx hb dX5_meanError_34 hl (k := 1) rfl (show nI i + Int32.ofInt 1 = nI (i + 1) from nI_add _ _) (by decide) rfl (fun ls hl => ?_)
          refine lv_goto (tgt := 14) hx hb dX5_meanError_37 (by decide) ?_
          exact ih14 (i + 1) x_2 (by omega) (by omega) (by rw [ex_2, ex1]; show _ = erS pf i + (qEr (pf i)).toInt64; rw [← hpi]; rfl) _ (lv_sub hl [0, 1, 2] rfl)
    exact L14 (cd + 1) 0 0 (by omega) (Nat.lt_succ_self _) rfl _ (lv_sub hl [0, 1, 2] rfl)
  · skip
    have c5 : ¬ 1 ≤ cd := fun z => c5 ((nI_leI (a := 1) (b := cd) (by omega) (by omega)).mpr z)
    exact False.elim (by omega)
set_option maxHeartbeats 8000000 in
set_option maxRecDepth 100000 in
theorem C_X5_digest_0 (l : Launch) (dC : Nat → ClassId) (dI : Nat → Nat → Nat) (cI cZ cP : ClassId) (N0 tO : Nat) (g0 gC gR c0 w0 v0 gB p0 cd : Nat) (db st bw ki sg ak : Int32) (fr : Nat → Option Nat) (pf : Nat → PQ) (h0 sc shn : Nat) (fc fs : Nat → Int32) (h0c : cd = 0) (h0s : shn = 0) (hcd : cd ≤ 24) (hfrs : ∀ j9, j9 < cd → fr j9 = some (pf j9).1.1) (hok : ∀ j9, j9 < cd → qOk (pf j9)) : Met l yX5_digest wsX5_digest ({ frames := 4, cells := 0, slots := 0, locals := 96 } : Room) (Gv (dC, dI) cI cZ cP N0 tO [.ref g0] (fun H => va_P (dC, dI) vwCl [(g0, .inr (5, [.ref gC, .ref gR, .ref c0, .ref w0, .ref v0, .ref gB, .ref p0, .int (nI cd), .int db, .int st, .int bw, .int ki, .int sg, .int ak])), (gR, .inl (cP, 24, .inr (.inr (.inr (.inr fr))))), (gC, .inl (cI, 768, .inl fc)), (v0, .inr (4, [.ref h0, .ref sc, .int (nI shn)])), (sc, .inl (cI, 768, .inl fs))] H ∧ TP (dC, dI) cI cZ pf cd H)) (vp_Sl (fun r : Int64 => r = dgF (dgF (dgS pf (dgH cd st shn 0 (nI (byS pf cd))) cd) fc 768) fs 768)) 0 0 (fun _ => False) := by
  refine Met.ofW (cc := cX5_digest) (maxL := 4) (ret := (some .long)) (by decide) rfl ?_
  intro p e s m args below meth c s₁ B hml hv
  obtain ⟨rfl, hE, hP, hT⟩ := hv
  have hx := B.exec
  have hb := B.bytes
  have hr := B.returns
  have hts := atoms_spec (ws := wsX5_digest) B.pre
  have hown : s.vm.findClass RX5 = some m.cls := findClass_of_methodNamed B.named
  have hlocks := B.notSynchronized
  have hK := hE.1
  have hNS := hE.2.1
  have hP : va_P (dC, dI) vwCl [(g0, .inr (5, [.ref gC, .ref gR, .ref c0, .ref w0, .ref v0, .ref gB, .ref p0, .int (nI cd), .int db, .int st, .int bw, .int ki, .int sg, .int ak])), (gR, .inl (cP, 24, .inr (.inr (.inr (.inr fr))))), (gC, .inl (cI, 768, .inl fc)), (v0, .inr (4, [.ref h0, .ref sc, .int (nI shn)])), (sc, .inl (cI, 768, .inl fs))] s.heap := hP
  have hinX2 : ∀ w ∈ wsX20, w ∈ wsX5_digest := by decide +kernel
  have hinX4 : ∀ w ∈ wsX40, w ∈ wsX5_digest := by decide +kernel
  have hinX5 : ∀ w ∈ wsX50, w ∈ wsX5_digest := by decide +kernel
  have hl := lv_entry ([.ref g0]) (n := 4) (Nat.le_of_ble_eq_true rfl)
  rw [lg_entry_eq]
  generalize (lg_sl ([.ref g0]) ++ List.replicate (4 - (lg_sl ([.ref g0])).length) Slot.unset).toArray = ls at hl ⊢
  have hl : lv_has ls 4 [(0, .ref g0)] := hl
  refine lv_ldc2 (v := 58019) hx hb hown (hts (.constantLong RX5 251 (58019)) (List.mem_of_getElem? (i := 1) (by decide +kernel))) dX5_digest_0 ?_
  refine lv_lstore_n (lv' := [(1, .long 58019), (0, .ref g0)]) hx hb dX5_digest_3 rfl hl (by decide) rfl (fun ls hl => ?_)
  refine lv_lload_n hx hb dX5_digest_4 rfl (lv_at hl 0 rfl) ?_
  refine lv_ldc2 (v := 31) hx hb hown (hts (.constantLong RX5 253 (31)) (List.mem_of_getElem? (i := 2) (by decide +kernel))) dX5_digest_5 ?_
  refine lv_lmul hx hb dX5_digest_8 ?_
  refine lv_aload_n hx hb dX5_digest_9 rfl (lv_at hl 1 rfl) ?_
  refine va_get (D := (dC, dI)) (ci := 5) (v := .int (nI cd)) (C := RX5) (T := TX5) (N := 14) hx hb hts hinX5 hown hK hP 0 rfl rfl 7 (by decide) (hts (.fieldLink RX5 48 "GreyReel" "coded" "I") (List.mem_of_getElem? (i := 3) (by decide +kernel))) (fun _ h9 => h9) rfl dX5_digest_10 ?_
  refine lv_i2l (v := (nI cd).toInt64) hx hb dX5_digest_13 rfl ?_
  refine lv_ladd hx hb dX5_digest_14 ?_
  refine lv_topl (fun x_1 ex_1 => ?_)
  refine lv_lstore_n (lv' := [(1, .long x_1), (0, .ref g0)]) hx hb dX5_digest_15 rfl hl (by decide) rfl (fun ls hl => ?_)
  refine lv_lload_n hx hb dX5_digest_16 rfl (lv_at hl 0 rfl) ?_
  refine lv_ldc2 (v := 31) hx hb hown (hts (.constantLong RX5 253 (31)) (List.mem_of_getElem? (i := 2) (by decide +kernel))) dX5_digest_17 ?_
  refine lv_lmul hx hb dX5_digest_20 ?_
  refine lv_aload_n hx hb dX5_digest_21 rfl (lv_at hl 1 rfl) ?_
  refine va_get (D := (dC, dI)) (ci := 5) (v := .int st) (C := RX5) (T := TX5) (N := 14) hx hb hts hinX5 hown hK hP 0 rfl rfl 9 (by decide) (hts (.fieldLink RX5 55 "GreyReel" "nextStep" "I") (List.mem_of_getElem? (i := 4) (by decide +kernel))) (fun _ h9 => h9) rfl dX5_digest_22 ?_
  refine lv_i2l (v := st.toInt64) hx hb dX5_digest_25 rfl ?_
  refine lv_ladd hx hb dX5_digest_26 ?_
  refine lv_topl (fun x_2 ex_2 => ?_)
  refine lv_lstore_n (lv' := [(1, .long x_2), (0, .ref g0)]) hx hb dX5_digest_27 rfl hl (by decide) rfl (fun ls hl => ?_)
  refine lv_lload_n hx hb dX5_digest_28 rfl (lv_at hl 0 rfl) ?_
  refine lv_ldc2 (v := 31) hx hb hown (hts (.constantLong RX5 253 (31)) (List.mem_of_getElem? (i := 2) (by decide +kernel))) dX5_digest_29 ?_
  refine lv_lmul hx hb dX5_digest_32 ?_
  refine lv_aload_n hx hb dX5_digest_33 rfl (lv_at hl 1 rfl) ?_
  refine va_get (D := (dC, dI)) (ci := 5) (v := .ref v0) (C := RX5) (T := TX5) (N := 14) hx hb hts hinX5 hown hK hP 0 rfl rfl 4 (by decide) (hts (.fieldLink RX5 36 "GreyReel" "viewer" "LGreyReel$Viewer;") (List.mem_of_getElem? (i := 5) (by decide +kernel))) (fun _ h9 => h9) rfl dX5_digest_34 ?_
  refine va_get (D := (dC, dI)) (ci := 4) (v := .int (nI shn)) (C := RX4) (T := TX4) (N := 3) hx hb hts hinX4 hown hK hP 3 rfl rfl 2 (by decide) (hts (.fieldLink RX5 208 "GreyReel$Viewer" "shownPictures" "I") (List.mem_of_getElem? (i := 6) (by decide +kernel))) (fun _ h9 => h9) rfl dX5_digest_37 ?_
  refine lv_i2l (v := (nI shn).toInt64) hx hb dX5_digest_40 rfl ?_
  refine lv_ladd hx hb dX5_digest_41 ?_
  refine lv_topl (fun x_3 ex_3 => ?_)
  refine lv_lstore_n (lv' := [(1, .long x_3), (0, .ref g0)]) hx hb dX5_digest_42 rfl hl (by decide) rfl (fun ls hl => ?_)
  refine lv_lload_n hx hb dX5_digest_43 rfl (lv_at hl 0 rfl) ?_
  refine lv_ldc2 (v := 31) hx hb hown (hts (.constantLong RX5 253 (31)) (List.mem_of_getElem? (i := 2) (by decide +kernel))) dX5_digest_44 ?_
  refine lv_lmul hx hb dX5_digest_47 ?_
  refine lv_aload_n hx hb dX5_digest_48 rfl (lv_at hl 1 rfl) ?_
  refine vp_callSi (va_Run.run (va_runV (As := []) (rest := [.long (x_3 * 31)]) ⟨hx, hb, hml, hown, hts⟩ (C_X5_drift_m l dC dI cI cZ cP N0 tO g0 gC gR c0 w0 v0 gB p0 cd db st bw ki sg ak fr h0 sc shn h0s) (cwV 0 hts gX5_digest_X5_drift rfl rfl rfl (by decide +kernel) ⟨Nat.le_of_ble_eq_true rfl, Nat.le_of_ble_eq_true rfl⟩) ⟨Gv.blind, va_recv hK hP (ci := 5) (q0 := 0) rfl rfl, Gv.of hE (hP.sub [0, 1, 3] rfl)⟩ rfl rfl hl.1 rfl (lv_room (Nat.le_of_ble_eq_true rfl)) dX5_digest_49 ⟨Nat.le_of_ble_eq_true rfl, Nat.le_of_ble_eq_true rfl⟩)) (fun r_4 hr_4 => ?_)
  have hr_4 : r_4 = 0 := hr_4
  refine lv_i2l (v := r_4.toInt64) hx hb dX5_digest_52 rfl ?_
  refine lv_ladd hx hb dX5_digest_53 ?_
  refine lv_topl (fun x_5 ex_5 => ?_)
  refine lv_lstore_n (lv' := [(1, .long x_5), (0, .ref g0)]) hx hb dX5_digest_54 rfl hl (by decide) rfl (fun ls hl => ?_)
  refine lv_lload_n hx hb dX5_digest_55 rfl (lv_at hl 0 rfl) ?_
  refine lv_ldc2 (v := 31) hx hb hown (hts (.constantLong RX5 253 (31)) (List.mem_of_getElem? (i := 2) (by decide +kernel))) dX5_digest_56 ?_
  refine lv_lmul hx hb dX5_digest_59 ?_
  refine lv_aload_n hx hb dX5_digest_60 rfl (lv_at hl 1 rfl) ?_
  refine vp_callSi (va_Run.run (va_runV (As := []) (rest := [.long (x_5 * 31)]) ⟨hx, hb, hml, hown, hts⟩ (C_X5_bytesOfAll l dC dI cI cZ cP N0 tO g0 gC gR c0 w0 v0 gB p0 cd db st bw ki sg ak fr pf hcd hfrs hok) (cwV 0 hts gX5_digest_X5_bytesOfAll rfl rfl rfl (by decide +kernel) ⟨Nat.le_of_ble_eq_true rfl, Nat.le_of_ble_eq_true rfl⟩) ⟨Gv.blind, va_recv hK hP (ci := 5) (q0 := 0) rfl rfl, Gv.of hE ⟨(hP.sub [0, 1] rfl), hT⟩⟩ rfl rfl hl.1 rfl (lv_room (Nat.le_of_ble_eq_true rfl)) dX5_digest_61 ⟨Nat.le_of_ble_eq_true rfl, Nat.le_of_ble_eq_true rfl⟩)) (fun r_6 hr_6 => ?_)
  have hr_6 : r_6 = nI (byS pf cd) := hr_6
  refine lv_topr hr_6 ?_
  refine lv_i2l (v := (nI (byS pf cd)).toInt64) hx hb dX5_digest_64 rfl ?_
  refine lv_ladd hx hb dX5_digest_65 ?_
  refine lv_topl (fun x_7 ex_7 => ?_)
  refine lv_lstore_n (lv' := [(1, .long x_7), (0, .ref g0)]) hx hb dX5_digest_66 rfl hl (by decide) rfl (fun ls hl => ?_)
  refine lv_iconst (v := 0) hx hb dX5_digest_67 (by decide) ?_
  refine lv_istore_n (lv' := [(3, .int 0), (1, .long x_7), (0, .ref g0)]) hx hb dX5_digest_68 rfl hl (by decide) rfl (fun ls hl => ?_)
  have L69 : ∀ (n69 : Nat) (j : Nat) (x1 : Int64), (j ≤ cd) → cd - j < n69 → x1 = (dgS pf (dgH cd st shn 0 (nI (byS pf cd))) j) → ∀ (ls : Array Slot), lv_has ls 4 [(3, .int (nI j)), (1, .long x1), (0, .ref g0)] → W p l e (headSpec wsX5_digest ({ frames := 4, cells := 0, slots := 0, locals := 96 } : Room)).room s m ([.ref g0] : List Value).toArray below meth c s.heap [] 0 0 (MQ below (vp_Sl (fun r : Int64 => r = dgF (dgF (dgS pf (dgH cd st shn 0 (nI (byS pf cd))) cd) fc 768) fs 768)) ([.ref g0] : List Value).toArray s 0 0 (fun _ => False)) (F0 m 69 ls []) := by
    intro n69
    induction n69 with
    | zero => intro j x1 hj hz; exact absurd hz (Nat.not_lt_zero _)
    | succ n69 ih69 =>
      intro j x1 hj hfu ex1 ls hl
      refine lv_iload_n hx hb dX5_digest_69 rfl (lv_at hl 0 rfl) ?_
      refine lv_aload_n hx hb dX5_digest_70 rfl (lv_at hl 2 rfl) ?_
      refine va_get (D := (dC, dI)) (ci := 5) (v := .int (nI cd)) (C := RX5) (T := TX5) (N := 14) hx hb hts hinX5 hown hK hP 0 rfl rfl 7 (by decide) (hts (.fieldLink RX5 48 "GreyReel" "coded" "I") (List.mem_of_getElem? (i := 3) (by decide +kernel))) (fun _ h9 => h9) rfl dX5_digest_71 ?_
      refine lv_icmp_ge (tgt := 93) hx hb dX5_digest_74 (by decide) (fun c74 => ?_) (fun c74 => ?_)
      · skip
        have c74 : cd ≤ j := (nI_leI (a := cd) (b := j) (by omega) (by omega)).mp c74
        have hjc : j = cd := by omega
        refine lv_lload_n hx hb dX5_digest_93 rfl (lv_at hl 1 rfl) ?_
        refine lv_aload_n hx hb dX5_digest_94 rfl (lv_at hl 2 rfl) ?_
        refine va_get (D := (dC, dI)) (ci := 5) (v := .ref gC) (C := RX5) (T := TX5) (N := 14) hx hb hts hinX5 hown hK hP 0 rfl rfl 0 (by decide) (hts (.fieldLink RX5 9 "GreyReel" "canvas" "[I") (List.mem_of_getElem? (i := 7) (by decide +kernel))) (fun _ h9 => h9) rfl dX5_digest_95 ?_
        refine vp_callSl (va_Run.run (va_runS (As := [.long x1, .ref gC]) (rest := []) ⟨hx, hb, hml, hown, hts⟩ (C_X5_digestPoints l dC dI cI cZ cP N0 tO gC x1 fc ) (va_cwS 2 hts gX5_digest_X5_digestPoints rfl rfl rfl (by decide +kernel) ⟨Nat.le_of_ble_eq_true rfl, Nat.le_of_ble_eq_true rfl⟩) ⟨Gv.blind, Gv.of hE (hP.sub [2] rfl)⟩ rfl rfl hl.1 rfl (lv_room (Nat.le_of_ble_eq_true rfl)) dX5_digest_98 ⟨Nat.le_of_ble_eq_true rfl, Nat.le_of_ble_eq_true rfl⟩)) (fun r_8 hr_8 => ?_)
        have hr_8 : r_8 = dgF x1 fc 768 := hr_8
        refine lv_lstore_n (lv' := [(1, .long r_8), (3, .int (nI j)), (0, .ref g0)]) hx hb dX5_digest_101 rfl hl (by decide) rfl (fun ls hl => ?_)
        refine lv_aload_n hx hb dX5_digest_102 rfl (lv_at hl 2 rfl) ?_
        refine lv_aload_n hx hb dX5_digest_103 rfl (lv_at hl 2 rfl) ?_
        refine va_get (D := (dC, dI)) (ci := 5) (v := .int (nI cd)) (C := RX5) (T := TX5) (N := 14) hx hb hts hinX5 hown hK hP 0 rfl rfl 7 (by decide) (hts (.fieldLink RX5 48 "GreyReel" "coded" "I") (List.mem_of_getElem? (i := 3) (by decide +kernel))) (fun _ h9 => h9) rfl dX5_digest_104 ?_
        refine lv_iconst (v := 1) hx hb dX5_digest_107 (by decide) ?_
        refine lv_isub hx hb dX5_digest_108 ?_
        refine va_csq (va_Run.run (va_runV (As := [.int ((nI cd) - 1)]) (rest := []) ⟨hx, hb, hml, hown, hts⟩ (C_X5_pictureOrNull_m l dC dI cI cZ cP N0 tO g0 gC gR c0 w0 v0 gB p0 cd db st bw ki sg ak fr ((nI cd) - 1) (by rw [h0c]; decide)) (cwV 1 hts gX5_digest_X5_pictureOrNull rfl rfl rfl (by decide +kernel) ⟨Nat.le_of_ble_eq_true rfl, Nat.le_of_ble_eq_true rfl⟩) ⟨Gv.blind, va_recv hK hP (ci := 5) (q0 := 0) rfl rfl, Gv.of hE (hP.sub [0, 1] rfl)⟩ rfl rfl hl.1 rfl (lv_room (Nat.le_of_ble_eq_true rfl)) dX5_digest_109 ⟨Nat.le_of_ble_eq_true rfl, Nat.le_of_ble_eq_true rfl⟩)) (fun r_9 hr_9 => ?_)
        refine lv_topv (show va_rf r_9 = .null from by rw [hr_9] <;> rfl) ?_
        refine lv_astore_nN (lv' := [(3, .null), (1, .long r_8), (0, .ref g0)]) hx hb dX5_digest_112 rfl hl (by decide) rfl (fun ls hl => ?_)
        refine lv_aload_nN hx hb dX5_digest_113 rfl (lv_at hl 0 rfl) ?_
        refine lv_ifnullN (tgt := 126) hx hb dX5_digest_114 (by decide) ?_
        refine lv_lload_n hx hb dX5_digest_126 rfl (lv_at hl 1 rfl) ?_
        refine lv_aload_n hx hb dX5_digest_127 rfl (lv_at hl 2 rfl) ?_
        refine va_get (D := (dC, dI)) (ci := 5) (v := .ref v0) (C := RX5) (T := TX5) (N := 14) hx hb hts hinX5 hown hK hP 0 rfl rfl 4 (by decide) (hts (.fieldLink RX5 36 "GreyReel" "viewer" "LGreyReel$Viewer;") (List.mem_of_getElem? (i := 5) (by decide +kernel))) (fun _ h9 => h9) rfl dX5_digest_128 ?_
        refine va_get (D := (dC, dI)) (ci := 4) (v := .ref sc) (C := RX4) (T := TX4) (N := 3) hx hb hts hinX4 hown hK hP 3 rfl rfl 1 (by decide) (hts (.fieldLink RX5 228 "GreyReel$Viewer" "screen" "[I") (List.mem_of_getElem? (i := 9) (by decide +kernel))) (fun _ h9 => h9) rfl dX5_digest_131 ?_
        refine vp_callSl (va_Run.run (va_runS (As := [.long r_8, .ref sc]) (rest := []) ⟨hx, hb, hml, hown, hts⟩ (C_X5_digestPoints l dC dI cI cZ cP N0 tO sc r_8 fs ) (va_cwS 2 hts gX5_digest_X5_digestPoints rfl rfl rfl (by decide +kernel) ⟨Nat.le_of_ble_eq_true rfl, Nat.le_of_ble_eq_true rfl⟩) ⟨Gv.blind, Gv.of hE (hP.sub [4] rfl)⟩ rfl rfl hl.1 rfl (lv_room (Nat.le_of_ble_eq_true rfl)) dX5_digest_134 ⟨Nat.le_of_ble_eq_true rfl, Nat.le_of_ble_eq_true rfl⟩)) (fun r_10 hr_10 => ?_)
        have hr_10 : r_10 = dgF r_8 fs 768 := hr_10
        exact W.lret (v := r_10) hx hb hr (fun t ht hW => ⟨r_10, rfl, (by rw [hr_10, hr_8, ex1, hjc]), ht⟩) (fun _ h => by cases h) dX5_digest_137
      · skip
        have c74 : ¬ cd ≤ j := fun z => c74 ((nI_leI (a := cd) (b := j) (by omega) (by omega)).mpr z)
        exact False.elim (by omega)
  exact L69 (cd + 1) 0 x_7 (by omega) (Nat.lt_succ_self _) (by rw [ex_7, ex_5, hr_4, ex_3, ex_2, ex_1] <;> rfl) _ (lv_sub hl [0, 1, 2] rfl)
set_option maxHeartbeats 8000000 in
set_option maxRecDepth 100000 in
theorem C_X5_digest_1 (l : Launch) (dC : Nat → ClassId) (dI : Nat → Nat → Nat) (cI cZ cP : ClassId) (N0 tO : Nat) (g0 gC gR c0 w0 v0 gB p0 i : Nat) (db st bw ki sg ak : Int32) (fr : Nat → Option Nat) (pf : Nat → PQ) (h0 sc : Nat) (fc fs : Nat → Int32) (r0 rK rX rY rC rV rR rU rG rW : Nat) (rnum rq rer rky rsm : Int32) (fl : Nat → Int32) (hcd : i + 1 ≤ 24) (hfrs : ∀ j9, j9 < i + 1 → fr j9 = some (pf j9).1.1) (hok : ∀ j9, j9 < i + 1 → qOk (pf j9)) (hfr : fr i = some r0) : Met l yX5_digest wsX5_digest ({ frames := 4, cells := 0, slots := 0, locals := 96 } : Room) (Gv (dC, dI) cI cZ cP N0 tO [.ref g0] (fun H => va_P (dC, dI) vwCl [(g0, .inr (5, [.ref gC, .ref gR, .ref c0, .ref w0, .ref v0, .ref gB, .ref p0, .int (nI (i + 1)), .int db, .int st, .int bw, .int ki, .int sg, .int ak])), (gR, .inl (cP, 24, .inr (.inr (.inr (.inr fr))))), (gC, .inl (cI, 768, .inl fc)), (v0, .inr (4, [.ref h0, .ref sc, .int (nI (i + 1))])), (sc, .inl (cI, 768, .inl fs)), (r0, .inr (2, [.ref rK, .ref rX, .ref rY, .ref rC, .ref rV, .ref rR, .ref rU, .ref rG, .ref rW, .int rnum, .int rq, .int rer, .int rky, .int rsm])), (rR, .inl (cI, 768, .inl fl))] H ∧ TP (dC, dI) cI cZ pf (i + 1) H)) (vp_Sl (fun r : Int64 => r = dgF (dgF (dgF (dgS pf (dgH (i + 1) st (i + 1) (distF fs fl 768) (nI (byS pf (i + 1)))) (i + 1)) fc 768) fl 768) fs 768)) 0 0 (fun _ => False) := by
  refine Met.ofW (cc := cX5_digest) (maxL := 4) (ret := (some .long)) (by decide) rfl ?_
  intro p e s m args below meth c s₁ B hml hv
  obtain ⟨rfl, hE, hP, hT⟩ := hv
  have hx := B.exec
  have hb := B.bytes
  have hr := B.returns
  have hts := atoms_spec (ws := wsX5_digest) B.pre
  have hown : s.vm.findClass RX5 = some m.cls := findClass_of_methodNamed B.named
  have hlocks := B.notSynchronized
  have hK := hE.1
  have hNS := hE.2.1
  have hP : va_P (dC, dI) vwCl [(g0, .inr (5, [.ref gC, .ref gR, .ref c0, .ref w0, .ref v0, .ref gB, .ref p0, .int (nI (i + 1)), .int db, .int st, .int bw, .int ki, .int sg, .int ak])), (gR, .inl (cP, 24, .inr (.inr (.inr (.inr fr))))), (gC, .inl (cI, 768, .inl fc)), (v0, .inr (4, [.ref h0, .ref sc, .int (nI (i + 1))])), (sc, .inl (cI, 768, .inl fs)), (r0, .inr (2, [.ref rK, .ref rX, .ref rY, .ref rC, .ref rV, .ref rR, .ref rU, .ref rG, .ref rW, .int rnum, .int rq, .int rer, .int rky, .int rsm])), (rR, .inl (cI, 768, .inl fl))] s.heap := hP
  have hinX2 : ∀ w ∈ wsX20, w ∈ wsX5_digest := by decide +kernel
  have hinX4 : ∀ w ∈ wsX40, w ∈ wsX5_digest := by decide +kernel
  have hinX5 : ∀ w ∈ wsX50, w ∈ wsX5_digest := by decide +kernel
  have hl := lv_entry ([.ref g0]) (n := 4) (Nat.le_of_ble_eq_true rfl)
  rw [lg_entry_eq]
  generalize (lg_sl ([.ref g0]) ++ List.replicate (4 - (lg_sl ([.ref g0])).length) Slot.unset).toArray = ls at hl ⊢
  have hl : lv_has ls 4 [(0, .ref g0)] := hl
  refine lv_ldc2 (v := 58019) hx hb hown (hts (.constantLong RX5 251 (58019)) (List.mem_of_getElem? (i := 1) (by decide +kernel))) dX5_digest_0 ?_
  refine lv_lstore_n (lv' := [(1, .long 58019), (0, .ref g0)]) hx hb dX5_digest_3 rfl hl (by decide) rfl (fun ls hl => ?_)
  refine lv_lload_n hx hb dX5_digest_4 rfl (lv_at hl 0 rfl) ?_
  refine lv_ldc2 (v := 31) hx hb hown (hts (.constantLong RX5 253 (31)) (List.mem_of_getElem? (i := 2) (by decide +kernel))) dX5_digest_5 ?_
  refine lv_lmul hx hb dX5_digest_8 ?_
  refine lv_aload_n hx hb dX5_digest_9 rfl (lv_at hl 1 rfl) ?_
  refine va_get (D := (dC, dI)) (ci := 5) (v := .int (nI (i + 1))) (C := RX5) (T := TX5) (N := 14) hx hb hts hinX5 hown hK hP 0 rfl rfl 7 (by decide) (hts (.fieldLink RX5 48 "GreyReel" "coded" "I") (List.mem_of_getElem? (i := 3) (by decide +kernel))) (fun _ h9 => h9) rfl dX5_digest_10 ?_
  refine lv_i2l (v := (nI (i + 1)).toInt64) hx hb dX5_digest_13 rfl ?_
  refine lv_ladd hx hb dX5_digest_14 ?_
  refine lv_topl (fun x_1 ex_1 => ?_)
  refine lv_lstore_n (lv' := [(1, .long x_1), (0, .ref g0)]) hx hb dX5_digest_15 rfl hl (by decide) rfl (fun ls hl => ?_)
  refine lv_lload_n hx hb dX5_digest_16 rfl (lv_at hl 0 rfl) ?_
  refine lv_ldc2 (v := 31) hx hb hown (hts (.constantLong RX5 253 (31)) (List.mem_of_getElem? (i := 2) (by decide +kernel))) dX5_digest_17 ?_
  refine lv_lmul hx hb dX5_digest_20 ?_
  refine lv_aload_n hx hb dX5_digest_21 rfl (lv_at hl 1 rfl) ?_
  refine va_get (D := (dC, dI)) (ci := 5) (v := .int st) (C := RX5) (T := TX5) (N := 14) hx hb hts hinX5 hown hK hP 0 rfl rfl 9 (by decide) (hts (.fieldLink RX5 55 "GreyReel" "nextStep" "I") (List.mem_of_getElem? (i := 4) (by decide +kernel))) (fun _ h9 => h9) rfl dX5_digest_22 ?_
  refine lv_i2l (v := st.toInt64) hx hb dX5_digest_25 rfl ?_
  refine lv_ladd hx hb dX5_digest_26 ?_
  refine lv_topl (fun x_2 ex_2 => ?_)
  refine lv_lstore_n (lv' := [(1, .long x_2), (0, .ref g0)]) hx hb dX5_digest_27 rfl hl (by decide) rfl (fun ls hl => ?_)
  refine lv_lload_n hx hb dX5_digest_28 rfl (lv_at hl 0 rfl) ?_
  refine lv_ldc2 (v := 31) hx hb hown (hts (.constantLong RX5 253 (31)) (List.mem_of_getElem? (i := 2) (by decide +kernel))) dX5_digest_29 ?_
  refine lv_lmul hx hb dX5_digest_32 ?_
  refine lv_aload_n hx hb dX5_digest_33 rfl (lv_at hl 1 rfl) ?_
  refine va_get (D := (dC, dI)) (ci := 5) (v := .ref v0) (C := RX5) (T := TX5) (N := 14) hx hb hts hinX5 hown hK hP 0 rfl rfl 4 (by decide) (hts (.fieldLink RX5 36 "GreyReel" "viewer" "LGreyReel$Viewer;") (List.mem_of_getElem? (i := 5) (by decide +kernel))) (fun _ h9 => h9) rfl dX5_digest_34 ?_
  refine va_get (D := (dC, dI)) (ci := 4) (v := .int (nI (i + 1))) (C := RX4) (T := TX4) (N := 3) hx hb hts hinX4 hown hK hP 3 rfl rfl 2 (by decide) (hts (.fieldLink RX5 208 "GreyReel$Viewer" "shownPictures" "I") (List.mem_of_getElem? (i := 6) (by decide +kernel))) (fun _ h9 => h9) rfl dX5_digest_37 ?_
  refine lv_i2l (v := (nI (i + 1)).toInt64) hx hb dX5_digest_40 rfl ?_
  refine lv_ladd hx hb dX5_digest_41 ?_
  refine lv_topl (fun x_3 ex_3 => ?_)
  refine lv_lstore_n (lv' := [(1, .long x_3), (0, .ref g0)]) hx hb dX5_digest_42 rfl hl (by decide) rfl (fun ls hl => ?_)
  refine lv_lload_n hx hb dX5_digest_43 rfl (lv_at hl 0 rfl) ?_
  refine lv_ldc2 (v := 31) hx hb hown (hts (.constantLong RX5 253 (31)) (List.mem_of_getElem? (i := 2) (by decide +kernel))) dX5_digest_44 ?_
  refine lv_lmul hx hb dX5_digest_47 ?_
  refine lv_aload_n hx hb dX5_digest_48 rfl (lv_at hl 1 rfl) ?_
  refine vp_callSi (va_Run.run (va_runV (As := []) (rest := [.long (x_3 * 31)]) ⟨hx, hb, hml, hown, hts⟩ (C_X5_drift_s l dC dI cI cZ cP N0 tO g0 gC gR c0 w0 v0 gB p0 (i + 1) db st bw ki sg ak fr i r0 rK rX rY rC rV rR rU rG rW rnum rq rer rky rsm h0 sc fs fl (by omega) hcd hfr) (cwV 0 hts gX5_digest_X5_drift rfl rfl rfl (by decide +kernel) ⟨Nat.le_of_ble_eq_true rfl, Nat.le_of_ble_eq_true rfl⟩) ⟨Gv.blind, va_recv hK hP (ci := 5) (q0 := 0) rfl rfl, Gv.of hE (hP.sub [0, 1, 3, 4, 5, 6] rfl)⟩ rfl rfl hl.1 rfl (lv_room (Nat.le_of_ble_eq_true rfl)) dX5_digest_49 ⟨Nat.le_of_ble_eq_true rfl, Nat.le_of_ble_eq_true rfl⟩)) (fun r_4 hr_4 => ?_)
  have hr_4 : r_4 = distF fs fl 768 := hr_4
  refine lv_i2l (v := r_4.toInt64) hx hb dX5_digest_52 rfl ?_
  refine lv_ladd hx hb dX5_digest_53 ?_
  refine lv_topl (fun x_5 ex_5 => ?_)
  refine lv_lstore_n (lv' := [(1, .long x_5), (0, .ref g0)]) hx hb dX5_digest_54 rfl hl (by decide) rfl (fun ls hl => ?_)
  refine lv_lload_n hx hb dX5_digest_55 rfl (lv_at hl 0 rfl) ?_
  refine lv_ldc2 (v := 31) hx hb hown (hts (.constantLong RX5 253 (31)) (List.mem_of_getElem? (i := 2) (by decide +kernel))) dX5_digest_56 ?_
  refine lv_lmul hx hb dX5_digest_59 ?_
  refine lv_aload_n hx hb dX5_digest_60 rfl (lv_at hl 1 rfl) ?_
  refine vp_callSi (va_Run.run (va_runV (As := []) (rest := [.long (x_5 * 31)]) ⟨hx, hb, hml, hown, hts⟩ (C_X5_bytesOfAll l dC dI cI cZ cP N0 tO g0 gC gR c0 w0 v0 gB p0 (i + 1) db st bw ki sg ak fr pf hcd hfrs hok) (cwV 0 hts gX5_digest_X5_bytesOfAll rfl rfl rfl (by decide +kernel) ⟨Nat.le_of_ble_eq_true rfl, Nat.le_of_ble_eq_true rfl⟩) ⟨Gv.blind, va_recv hK hP (ci := 5) (q0 := 0) rfl rfl, Gv.of hE ⟨(hP.sub [0, 1] rfl), hT⟩⟩ rfl rfl hl.1 rfl (lv_room (Nat.le_of_ble_eq_true rfl)) dX5_digest_61 ⟨Nat.le_of_ble_eq_true rfl, Nat.le_of_ble_eq_true rfl⟩)) (fun r_6 hr_6 => ?_)
  have hr_6 : r_6 = nI (byS pf (i + 1)) := hr_6
  refine lv_topr hr_6 ?_
  refine lv_i2l (v := (nI (byS pf (i + 1))).toInt64) hx hb dX5_digest_64 rfl ?_
  refine lv_ladd hx hb dX5_digest_65 ?_
  refine lv_topl (fun x_7 ex_7 => ?_)
  refine lv_lstore_n (lv' := [(1, .long x_7), (0, .ref g0)]) hx hb dX5_digest_66 rfl hl (by decide) rfl (fun ls hl => ?_)
  refine lv_iconst (v := 0) hx hb dX5_digest_67 (by decide) ?_
  refine lv_istore_n (lv' := [(3, .int 0), (1, .long x_7), (0, .ref g0)]) hx hb dX5_digest_68 rfl hl (by decide) rfl (fun ls hl => ?_)
  have L69 : ∀ (n69 : Nat) (j : Nat) (x1 : Int64), (j ≤ i + 1) → i + 1 - j < n69 → x1 = (dgS pf (dgH (i + 1) st (i + 1) (distF fs fl 768) (nI (byS pf (i + 1)))) j) → ∀ (ls : Array Slot), lv_has ls 4 [(3, .int (nI j)), (1, .long x1), (0, .ref g0)] → W p l e (headSpec wsX5_digest ({ frames := 4, cells := 0, slots := 0, locals := 96 } : Room)).room s m ([.ref g0] : List Value).toArray below meth c s.heap [] 0 0 (MQ below (vp_Sl (fun r : Int64 => r = dgF (dgF (dgF (dgS pf (dgH (i + 1) st (i + 1) (distF fs fl 768) (nI (byS pf (i + 1)))) (i + 1)) fc 768) fl 768) fs 768)) ([.ref g0] : List Value).toArray s 0 0 (fun _ => False)) (F0 m 69 ls []) := by
    intro n69
    induction n69 with
    | zero => intro j x1 hj hz; exact absurd hz (Nat.not_lt_zero _)
    | succ n69 ih69 =>
      intro j x1 hj hfu ex1 ls hl
      refine lv_iload_n hx hb dX5_digest_69 rfl (lv_at hl 0 rfl) ?_
      refine lv_aload_n hx hb dX5_digest_70 rfl (lv_at hl 2 rfl) ?_
      refine va_get (D := (dC, dI)) (ci := 5) (v := .int (nI (i + 1))) (C := RX5) (T := TX5) (N := 14) hx hb hts hinX5 hown hK hP 0 rfl rfl 7 (by decide) (hts (.fieldLink RX5 48 "GreyReel" "coded" "I") (List.mem_of_getElem? (i := 3) (by decide +kernel))) (fun _ h9 => h9) rfl dX5_digest_71 ?_
      refine lv_icmp_ge (tgt := 93) hx hb dX5_digest_74 (by decide) (fun c74 => ?_) (fun c74 => ?_)
      · skip
        have c74 : (i + 1) ≤ j := (nI_leI (a := (i + 1)) (b := j) (by omega) (by omega)).mp c74
        have hjc : j = i + 1 := by omega
        refine lv_lload_n hx hb dX5_digest_93 rfl (lv_at hl 1 rfl) ?_
        refine lv_aload_n hx hb dX5_digest_94 rfl (lv_at hl 2 rfl) ?_
        refine va_get (D := (dC, dI)) (ci := 5) (v := .ref gC) (C := RX5) (T := TX5) (N := 14) hx hb hts hinX5 hown hK hP 0 rfl rfl 0 (by decide) (hts (.fieldLink RX5 9 "GreyReel" "canvas" "[I") (List.mem_of_getElem? (i := 7) (by decide +kernel))) (fun _ h9 => h9) rfl dX5_digest_95 ?_
        refine vp_callSl (va_Run.run (va_runS (As := [.long x1, .ref gC]) (rest := []) ⟨hx, hb, hml, hown, hts⟩ (C_X5_digestPoints l dC dI cI cZ cP N0 tO gC x1 fc ) (va_cwS 2 hts gX5_digest_X5_digestPoints rfl rfl rfl (by decide +kernel) ⟨Nat.le_of_ble_eq_true rfl, Nat.le_of_ble_eq_true rfl⟩) ⟨Gv.blind, Gv.of hE (hP.sub [2] rfl)⟩ rfl rfl hl.1 rfl (lv_room (Nat.le_of_ble_eq_true rfl)) dX5_digest_98 ⟨Nat.le_of_ble_eq_true rfl, Nat.le_of_ble_eq_true rfl⟩)) (fun r_8 hr_8 => ?_)
        have hr_8 : r_8 = dgF x1 fc 768 := hr_8
        refine lv_lstore_n (lv' := [(1, .long r_8), (3, .int (nI j)), (0, .ref g0)]) hx hb dX5_digest_101 rfl hl (by decide) rfl (fun ls hl => ?_)
        refine lv_aload_n hx hb dX5_digest_102 rfl (lv_at hl 2 rfl) ?_
        refine lv_aload_n hx hb dX5_digest_103 rfl (lv_at hl 2 rfl) ?_
        refine va_get (D := (dC, dI)) (ci := 5) (v := .int (nI (i + 1))) (C := RX5) (T := TX5) (N := 14) hx hb hts hinX5 hown hK hP 0 rfl rfl 7 (by decide) (hts (.fieldLink RX5 48 "GreyReel" "coded" "I") (List.mem_of_getElem? (i := 3) (by decide +kernel))) (fun _ h9 => h9) rfl dX5_digest_104 ?_
        refine lv_iconst (v := 1) hx hb dX5_digest_107 (by decide) ?_
        refine lv_isub hx hb dX5_digest_108 ?_
        refine lv_topr (show _ = nI i from (pk_sub (a := i + 1) (b := 1) (by omega))) ?_
        refine va_csq (va_Run.run (va_runV (As := [.int (nI i)]) (rest := []) ⟨hx, hb, hml, hown, hts⟩ (C_X5_pictureOrNull_s l dC dI cI cZ cP N0 tO g0 gC gR c0 w0 v0 gB p0 (i + 1) db st bw ki sg ak fr i r0 (by omega) hcd hfr) (cwV 1 hts gX5_digest_X5_pictureOrNull rfl rfl rfl (by decide +kernel) ⟨Nat.le_of_ble_eq_true rfl, Nat.le_of_ble_eq_true rfl⟩) ⟨Gv.blind, va_recv hK hP (ci := 5) (q0 := 0) rfl rfl, Gv.of hE (hP.sub [0, 1] rfl)⟩ rfl rfl hl.1 rfl (lv_room (Nat.le_of_ble_eq_true rfl)) dX5_digest_109 ⟨Nat.le_of_ble_eq_true rfl, Nat.le_of_ble_eq_true rfl⟩)) (fun r_9 hr_9 => ?_)
        refine lv_topv (show va_rf r_9 = .ref r0 from by rw [hr_9] <;> rfl) ?_
        refine lv_astore_n (lv' := [(3, .ref r0), (1, .long r_8), (0, .ref g0)]) hx hb dX5_digest_112 rfl hl (by decide) rfl (fun ls hl => ?_)
        refine lv_aload_n hx hb dX5_digest_113 rfl (lv_at hl 0 rfl) ?_
        refine lv_ifnull hx hb dX5_digest_114 ?_
        refine lv_lload_n hx hb dX5_digest_117 rfl (lv_at hl 1 rfl) ?_
        refine lv_aload_n hx hb dX5_digest_118 rfl (lv_at hl 0 rfl) ?_
        refine va_get (D := (dC, dI)) (ci := 2) (v := .ref rR) (C := RX2) (T := TX2) (N := 14) hx hb hts hinX2 hown hK hP 5 rfl rfl 5 (by decide) (hts (.fieldLink RX5 186 "GreyReel$Picture" "result" "[I") (List.mem_of_getElem? (i := 8) (by decide +kernel))) (fun _ h9 => h9) rfl dX5_digest_119 ?_
        refine vp_callSl (va_Run.run (va_runS (As := [.long r_8, .ref rR]) (rest := []) ⟨hx, hb, hml, hown, hts⟩ (C_X5_digestPoints l dC dI cI cZ cP N0 tO rR r_8 fl ) (va_cwS 2 hts gX5_digest_X5_digestPoints rfl rfl rfl (by decide +kernel) ⟨Nat.le_of_ble_eq_true rfl, Nat.le_of_ble_eq_true rfl⟩) ⟨Gv.blind, Gv.of hE (hP.sub [6] rfl)⟩ rfl rfl hl.1 rfl (lv_room (Nat.le_of_ble_eq_true rfl)) dX5_digest_122 ⟨Nat.le_of_ble_eq_true rfl, Nat.le_of_ble_eq_true rfl⟩)) (fun r_10 hr_10 => ?_)
        have hr_10 : r_10 = dgF r_8 fl 768 := hr_10
        refine lv_lstore_n (lv' := [(1, .long r_10), (3, .ref r0), (0, .ref g0)]) hx hb dX5_digest_125 rfl hl (by decide) rfl (fun ls hl => ?_)
        refine lv_lload_n hx hb dX5_digest_126 rfl (lv_at hl 0 rfl) ?_
        refine lv_aload_n hx hb dX5_digest_127 rfl (lv_at hl 2 rfl) ?_
        refine va_get (D := (dC, dI)) (ci := 5) (v := .ref v0) (C := RX5) (T := TX5) (N := 14) hx hb hts hinX5 hown hK hP 0 rfl rfl 4 (by decide) (hts (.fieldLink RX5 36 "GreyReel" "viewer" "LGreyReel$Viewer;") (List.mem_of_getElem? (i := 5) (by decide +kernel))) (fun _ h9 => h9) rfl dX5_digest_128 ?_
        refine va_get (D := (dC, dI)) (ci := 4) (v := .ref sc) (C := RX4) (T := TX4) (N := 3) hx hb hts hinX4 hown hK hP 3 rfl rfl 1 (by decide) (hts (.fieldLink RX5 228 "GreyReel$Viewer" "screen" "[I") (List.mem_of_getElem? (i := 9) (by decide +kernel))) (fun _ h9 => h9) rfl dX5_digest_131 ?_
        refine vp_callSl (va_Run.run (va_runS (As := [.long r_10, .ref sc]) (rest := []) ⟨hx, hb, hml, hown, hts⟩ (C_X5_digestPoints l dC dI cI cZ cP N0 tO sc r_10 fs ) (va_cwS 2 hts gX5_digest_X5_digestPoints rfl rfl rfl (by decide +kernel) ⟨Nat.le_of_ble_eq_true rfl, Nat.le_of_ble_eq_true rfl⟩) ⟨Gv.blind, Gv.of hE (hP.sub [4] rfl)⟩ rfl rfl hl.1 rfl (lv_room (Nat.le_of_ble_eq_true rfl)) dX5_digest_134 ⟨Nat.le_of_ble_eq_true rfl, Nat.le_of_ble_eq_true rfl⟩)) (fun r_11 hr_11 => ?_)
        have hr_11 : r_11 = dgF r_10 fs 768 := hr_11
        exact W.lret (v := r_11) hx hb hr (fun t ht hW => ⟨r_11, rfl, (by rw [hr_11, hr_10, hr_8, ex1, hjc]), ht⟩) (fun _ h => by cases h) dX5_digest_137
      · skip
        have c74 : ¬ (i + 1) ≤ j := fun z => c74 ((nI_leI (a := (i + 1)) (b := j) (by omega) (by omega)).mpr z)
        obtain ⟨⟨⟨u0, uK, uX, uY, uC, uV, uR, uU, uG, uW⟩, ⟨kd, fx, fy, fp, fv, f9, ub, fg, fw, len, unum, uq, uer, uky, usm⟩⟩, hpi⟩ : ∃ q9, q9 = pf j := ⟨_, rfl⟩
        have hTi := hT j (by omega)
        have hfri := hfrs j (by omega)
        have hoki := hok j (by omega)
        rw [← hpi] at hTi hfri hoki
        have hP := hP.app hTi
        have hP : va_P (dC, dI) vwCl [(g0, .inr (5, [.ref gC, .ref gR, .ref c0, .ref w0, .ref v0, .ref gB, .ref p0, .int (nI (i + 1)), .int db, .int st, .int bw, .int ki, .int sg, .int ak])), (gR, .inl (cP, 24, .inr (.inr (.inr (.inr fr))))), (gC, .inl (cI, 768, .inl fc)), (v0, .inr (4, [.ref h0, .ref sc, .int (nI (i + 1))])), (sc, .inl (cI, 768, .inl fs)), (r0, .inr (2, [.ref rK, .ref rX, .ref rY, .ref rC, .ref rV, .ref rR, .ref rU, .ref rG, .ref rW, .int rnum, .int rq, .int rer, .int rky, .int rsm])), (rR, .inl (cI, 768, .inl fl)), (u0, .inr (2, [.ref uK, .ref uX, .ref uY, .ref uC, .ref uV, .ref uR, .ref uU, .ref uG, .ref uW, .int unum, .int uq, .int uer, .int uky, .int usm])), (uK, .inl (cI, 12, .inl (fun k => nI (kd k)))), (uX, .inl (cI, 12, .inl fx)), (uY, .inl (cI, 12, .inl fy)), (uC, .inl (cI, 12, .inl fp)), (uV, .inl (cI, 768, .inl fv)), (uR, .inl (cI, 768, .inl f9)), (uU, .inl (cI, 3, .inl (fun k => nI (ub k)))), (uG, .inl (cZ, 3, .inl fg)), (uW, .inl (cI, len, .inl fw))] s.heap := hP
        refine lv_aload_n hx hb dX5_digest_77 rfl (lv_at hl 2 rfl) ?_
        refine lv_iload_n hx hb dX5_digest_78 rfl (lv_at hl 0 rfl) ?_
        refine va_csq (va_Run.run (va_runV (As := [.int (nI j)]) (rest := []) ⟨hx, hb, hml, hown, hts⟩ (C_X5_pictureAt l dC dI cI cZ cP N0 tO g0 gC gR c0 w0 v0 gB p0 (i + 1) db st bw ki sg ak fr j u0 (by omega) hcd hfri) (cwV 1 hts gX5_digest_X5_pictureAt rfl rfl rfl (by decide +kernel) ⟨Nat.le_of_ble_eq_true rfl, Nat.le_of_ble_eq_true rfl⟩) ⟨Gv.blind, va_recv hK hP (ci := 5) (q0 := 0) rfl rfl, Gv.of hE (hP.sub [0, 1] rfl)⟩ rfl rfl hl.1 rfl (lv_room (Nat.le_of_ble_eq_true rfl)) dX5_digest_79 ⟨Nat.le_of_ble_eq_true rfl, Nat.le_of_ble_eq_true rfl⟩)) (fun r_12 hr_12 => ?_)
        refine lv_topv (show va_rf r_12 = .ref u0 from by rw [hr_12] <;> rfl) ?_
        refine lv_lload_n hx hb dX5_digest_82 rfl (lv_at hl 1 rfl) ?_
        refine vp_callSl (va_Run.run (va_runV (As := [.long x1]) (rest := []) ⟨hx, hb, hml, hown, hts⟩ (C_X2_digestOn l dC dI cI cZ cP N0 tO u0 uK uX uY uC uV uR uU uG uW unum uq uer uky usm kd fx fy fv ub fg fw len x1 hoki.1 hoki.2.1) (cwV 1 hts gX5_digest_X2_digestOn rfl rfl rfl (by decide +kernel) ⟨Nat.le_of_ble_eq_true rfl, Nat.le_of_ble_eq_true rfl⟩) ⟨Gv.blind, va_recv hK hP (ci := 2) (q0 := 7) rfl rfl, Gv.of hE (hP.sub [7, 8, 9, 10, 12, 14, 15, 16] rfl)⟩ rfl rfl hl.1 rfl (lv_room (Nat.le_of_ble_eq_true rfl)) dX5_digest_83 ⟨Nat.le_of_ble_eq_true rfl, Nat.le_of_ble_eq_true rfl⟩)) (fun r_13 hr_13 => ?_)
        have hr_13 : r_13 = dgO kd fx fy fv ub fg fw len uq uer uky x1 := hr_13
        refine lv_lstore_n (lv' := [(1, .long r_13), (3, .int (nI j)), (0, .ref g0)]) hx hb dX5_digest_86 rfl hl (by decide) rfl (fun ls hl => ?_)
        refine lv_iinc (v := nI (j + 1)) (lv' := [(3, .int (nI (j + 1))), (1, .long r_13), (0, .ref g0)]) hx hb dX5_digest_87 hl (k := 1) rfl (show nI j + Int32.ofInt 1 = nI (j + 1) from nI_add _ _) (by decide) rfl (fun ls hl => ?_)
        refine lv_goto (tgt := 69) hx hb dX5_digest_90 (by decide) ?_
        exact ih69 (j + 1) r_13 (by omega) (by omega) (by rw [hr_13, ex1]; show _ = qDg (pf j) (dgS pf _ j); rw [← hpi]; rfl) _ (lv_sub hl [0, 1, 2] rfl)
  exact L69 ((i + 1) + 1) 0 x_7 (by omega) (Nat.lt_succ_self _) (by rw [ex_7, ex_5, hr_4, ex_3, ex_2, ex_1] <;> rfl) _ (lv_sub hl [0, 1, 2] rfl)
