section
-- ===== PART A: goes FIRST, ahead of the names: the tables' words, and 'selects' of the private methods out of them =====
/-- a private method of a class that the tables say can be made, by its rows of tables_1 -/
def lw_okq (q : MethodName × Nat) : Prop := (q.1.cls ≠ "java/lang/invoke/MethodHandle" ∧ q.1.cls ≠ "java/lang/invoke/VarHandle") ∧ Cond.instantiable q.1.cls q.2 ∈ tables_1 ∧ Cond.privateMethod q.1 ∈ tables_1 ∧ Cond.instanceMethod q.1 ∈ tables_1
theorem lw_p0 : lw_okq (⟨"java/lang/Throwable", "fillInStackTrace", "(I)Ljava/lang/Throwable;"⟩, 6) := ⟨⟨by decide +kernel, by decide +kernel⟩, List.mem_of_getElem? (i := 292) (by decide +kernel), List.mem_of_getElem? (i := 290) (by decide +kernel), List.mem_of_getElem? (i := 291) (by decide +kernel)⟩
theorem lw_p1 : lw_okq (⟨"GreyReel", "isKeyDue", "()Z"⟩, 14) := ⟨⟨by decide +kernel, by decide +kernel⟩, List.mem_of_getElem? (i := 17) (by decide +kernel), List.mem_of_getElem? (i := 335) (by decide +kernel), List.mem_of_getElem? (i := 336) (by decide +kernel)⟩
theorem lw_p2 : lw_okq (⟨"GreyReel", "refuseIfFull", "()V"⟩, 14) := ⟨⟨by decide +kernel, by decide +kernel⟩, List.mem_of_getElem? (i := 17) (by decide +kernel), List.mem_of_getElem? (i := 343) (by decide +kernel), List.mem_of_getElem? (i := 344) (by decide +kernel)⟩
theorem lw_p3 : lw_okq (⟨"GreyReel", "draftNext", "(I)V"⟩, 14) := ⟨⟨by decide +kernel, by decide +kernel⟩, List.mem_of_getElem? (i := 17) (by decide +kernel), List.mem_of_getElem? (i := 363) (by decide +kernel), List.mem_of_getElem? (i := 364) (by decide +kernel)⟩
theorem lw_p4 : lw_okq (⟨"GreyReel", "pictureOrNull", "(I)LGreyReel$Picture;"⟩, 14) := ⟨⟨by decide +kernel, by decide +kernel⟩, List.mem_of_getElem? (i := 17) (by decide +kernel), List.mem_of_getElem? (i := 367) (by decide +kernel), List.mem_of_getElem? (i := 368) (by decide +kernel)⟩
theorem lw_p5 : lw_okq (⟨"GreyReel$Coder", "codeBlock", "(LGreyReel$Picture;[II)V"⟩, 5) := ⟨⟨by decide +kernel, by decide +kernel⟩, List.mem_of_getElem? (i := 27) (by decide +kernel), List.mem_of_getElem? (i := 388) (by decide +kernel), List.mem_of_getElem? (i := 389) (by decide +kernel)⟩
theorem lw_p6 : lw_okq (⟨"GreyReel$Coder", "seekVector", "(LGreyReel$Picture;[II)V"⟩, 5) := ⟨⟨by decide +kernel, by decide +kernel⟩, List.mem_of_getElem? (i := 27) (by decide +kernel), List.mem_of_getElem? (i := 393) (by decide +kernel), List.mem_of_getElem? (i := 394) (by decide +kernel)⟩
theorem lw_p7 : lw_okq (⟨"GreyReel$Coder", "tryVector", "(LGreyReel$Picture;[IIII)V"⟩, 5) := ⟨⟨by decide +kernel, by decide +kernel⟩, List.mem_of_getElem? (i := 27) (by decide +kernel), List.mem_of_getElem? (i := 397) (by decide +kernel), List.mem_of_getElem? (i := 398) (by decide +kernel)⟩
theorem lw_p8 : lw_okq (⟨"GreyReel$Studio", "startAhead", "(III)I"⟩, 4) := ⟨⟨by decide +kernel, by decide +kernel⟩, List.mem_of_getElem? (i := 33) (by decide +kernel), List.mem_of_getElem? (i := 419) (by decide +kernel), List.mem_of_getElem? (i := 420) (by decide +kernel)⟩
theorem lw_p9 : lw_okq (⟨"GreyReel$Studio", "between", "(III)I"⟩, 4) := ⟨⟨by decide +kernel, by decide +kernel⟩, List.mem_of_getElem? (i := 33) (by decide +kernel), List.mem_of_getElem? (i := 426) (by decide +kernel), List.mem_of_getElem? (i := 427) (by decide +kernel)⟩
theorem lw_p10 : lw_okq (⟨"GreyReel$Coder", "take", "(IIII)V"⟩, 5) := ⟨⟨by decide +kernel, by decide +kernel⟩, List.mem_of_getElem? (i := 27) (by decide +kernel), List.mem_of_getElem? (i := 431) (by decide +kernel), List.mem_of_getElem? (i := 432) (by decide +kernel)⟩
theorem lw_p11 : lw_okq (⟨"GreyReel$Coder", "tryKind", "(I[III)V"⟩, 5) := ⟨⟨by decide +kernel, by decide +kernel⟩, List.mem_of_getElem? (i := 27) (by decide +kernel), List.mem_of_getElem? (i := 436) (by decide +kernel), List.mem_of_getElem? (i := 437) (by decide +kernel)⟩
theorem lw_p12 : lw_okq (⟨"GreyReel$Studio", "foretellMoved", "(III)V"⟩, 4) := ⟨⟨by decide +kernel, by decide +kernel⟩, List.mem_of_getElem? (i := 33) (by decide +kernel), List.mem_of_getElem? (i := 444) (by decide +kernel), List.mem_of_getElem? (i := 445) (by decide +kernel)⟩
theorem lw_p13 : lw_okq (⟨"GreyReel$Studio", "foretellFlat", "(I)V"⟩, 4) := ⟨⟨by decide +kernel, by decide +kernel⟩, List.mem_of_getElem? (i := 33) (by decide +kernel), List.mem_of_getElem? (i := 448) (by decide +kernel), List.mem_of_getElem? (i := 449) (by decide +kernel)⟩
theorem lw_p14 : lw_okq (⟨"GreyReel$Studio", "foretellLeft", "(I)V"⟩, 4) := ⟨⟨by decide +kernel, by decide +kernel⟩, List.mem_of_getElem? (i := 33) (by decide +kernel), List.mem_of_getElem? (i := 454) (by decide +kernel), List.mem_of_getElem? (i := 455) (by decide +kernel)⟩
theorem lw_p15 : lw_okq (⟨"GreyReel$Studio", "foretellTrend", "(I)V"⟩, 4) := ⟨⟨by decide +kernel, by decide +kernel⟩, List.mem_of_getElem? (i := 33) (by decide +kernel), List.mem_of_getElem? (i := 458) (by decide +kernel), List.mem_of_getElem? (i := 459) (by decide +kernel)⟩
def lw_privs_1 : List (MethodName × Nat) := [(⟨"java/lang/Throwable", "fillInStackTrace", "(I)Ljava/lang/Throwable;"⟩, 6), (⟨"GreyReel", "isKeyDue", "()Z"⟩, 14), (⟨"GreyReel", "refuseIfFull", "()V"⟩, 14), (⟨"GreyReel", "draftNext", "(I)V"⟩, 14), (⟨"GreyReel", "pictureOrNull", "(I)LGreyReel$Picture;"⟩, 14), (⟨"GreyReel$Coder", "codeBlock", "(LGreyReel$Picture;[II)V"⟩, 5), (⟨"GreyReel$Coder", "seekVector", "(LGreyReel$Picture;[II)V"⟩, 5), (⟨"GreyReel$Coder", "tryVector", "(LGreyReel$Picture;[IIII)V"⟩, 5), (⟨"GreyReel$Studio", "startAhead", "(III)I"⟩, 4), (⟨"GreyReel$Studio", "between", "(III)I"⟩, 4), (⟨"GreyReel$Coder", "take", "(IIII)V"⟩, 5), (⟨"GreyReel$Coder", "tryKind", "(I[III)V"⟩, 5), (⟨"GreyReel$Studio", "foretellMoved", "(III)V"⟩, 4), (⟨"GreyReel$Studio", "foretellFlat", "(I)V"⟩, 4), (⟨"GreyReel$Studio", "foretellLeft", "(I)V"⟩, 4), (⟨"GreyReel$Studio", "foretellTrend", "(I)V"⟩, 4)]
theorem lw_r1 : ∀ q ∈ lw_privs_1, lw_okq q := List.forall_mem_cons.mpr ⟨lw_p0, List.forall_mem_cons.mpr ⟨lw_p1, List.forall_mem_cons.mpr ⟨lw_p2, List.forall_mem_cons.mpr ⟨lw_p3, List.forall_mem_cons.mpr ⟨lw_p4, List.forall_mem_cons.mpr ⟨lw_p5, List.forall_mem_cons.mpr ⟨lw_p6, List.forall_mem_cons.mpr ⟨lw_p7, List.forall_mem_cons.mpr ⟨lw_p8, List.forall_mem_cons.mpr ⟨lw_p9, List.forall_mem_cons.mpr ⟨lw_p10, List.forall_mem_cons.mpr ⟨lw_p11, List.forall_mem_cons.mpr ⟨lw_p12, List.forall_mem_cons.mpr ⟨lw_p13, List.forall_mem_cons.mpr ⟨lw_p14, List.forall_mem_cons.mpr ⟨lw_p15, fun _ h => absurd h List.not_mem_nil⟩⟩⟩⟩⟩⟩⟩⟩⟩⟩⟩⟩⟩⟩⟩⟩
theorem lw_p16 : lw_okq (⟨"GreyReel$Studio", "turnQuarter", "()V"⟩, 4) := ⟨⟨by decide +kernel, by decide +kernel⟩, List.mem_of_getElem? (i := 33) (by decide +kernel), List.mem_of_getElem? (i := 480) (by decide +kernel), List.mem_of_getElem? (i := 481) (by decide +kernel)⟩
theorem lw_p17 : lw_okq (⟨"GreyReel$Studio", "turnFour", "(II)V"⟩, 4) := ⟨⟨by decide +kernel, by decide +kernel⟩, List.mem_of_getElem? (i := 33) (by decide +kernel), List.mem_of_getElem? (i := 484) (by decide +kernel), List.mem_of_getElem? (i := 485) (by decide +kernel)⟩
theorem lw_p18 : lw_okq (⟨"GreyReel$Studio", "smoothAcross", "(III)V"⟩, 4) := ⟨⟨by decide +kernel, by decide +kernel⟩, List.mem_of_getElem? (i := 33) (by decide +kernel), List.mem_of_getElem? (i := 501) (by decide +kernel), List.mem_of_getElem? (i := 502) (by decide +kernel)⟩
theorem lw_p19 : lw_okq (⟨"GreyReel$PacketWriter", "startBand", "(LGreyReel$Picture;)V"⟩, 4) := ⟨⟨by decide +kernel, by decide +kernel⟩, List.mem_of_getElem? (i := 73) (by decide +kernel), List.mem_of_getElem? (i := 518) (by decide +kernel), List.mem_of_getElem? (i := 519) (by decide +kernel)⟩
theorem lw_p20 : lw_okq (⟨"GreyReel$PacketWriter", "put", "(II)V"⟩, 4) := ⟨⟨by decide +kernel, by decide +kernel⟩, List.mem_of_getElem? (i := 73) (by decide +kernel), List.mem_of_getElem? (i := 522) (by decide +kernel), List.mem_of_getElem? (i := 523) (by decide +kernel)⟩
theorem lw_p21 : lw_okq (⟨"GreyReel$PacketWriter", "writeBlock", "(LGreyReel$Picture;I)V"⟩, 4) := ⟨⟨by decide +kernel, by decide +kernel⟩, List.mem_of_getElem? (i := 73) (by decide +kernel), List.mem_of_getElem? (i := 526) (by decide +kernel), List.mem_of_getElem? (i := 527) (by decide +kernel)⟩
theorem lw_p22 : lw_okq (⟨"GreyReel$PacketWriter", "writeKind", "(I)V"⟩, 4) := ⟨⟨by decide +kernel, by decide +kernel⟩, List.mem_of_getElem? (i := 73) (by decide +kernel), List.mem_of_getElem? (i := 530) (by decide +kernel), List.mem_of_getElem? (i := 531) (by decide +kernel)⟩
theorem lw_p23 : lw_okq (⟨"GreyReel$PacketWriter", "putOnes", "(I)V"⟩, 4) := ⟨⟨by decide +kernel, by decide +kernel⟩, List.mem_of_getElem? (i := 73) (by decide +kernel), List.mem_of_getElem? (i := 534) (by decide +kernel), List.mem_of_getElem? (i := 535) (by decide +kernel)⟩
theorem lw_p24 : lw_okq (⟨"GreyReel$PacketWriter", "writeSigned", "(I)V"⟩, 4) := ⟨⟨by decide +kernel, by decide +kernel⟩, List.mem_of_getElem? (i := 73) (by decide +kernel), List.mem_of_getElem? (i := 539) (by decide +kernel), List.mem_of_getElem? (i := 540) (by decide +kernel)⟩
theorem lw_p25 : lw_okq (⟨"GreyReel$PacketWriter", "writeLevels", "([II)V"⟩, 4) := ⟨⟨by decide +kernel, by decide +kernel⟩, List.mem_of_getElem? (i := 73) (by decide +kernel), List.mem_of_getElem? (i := 547) (by decide +kernel), List.mem_of_getElem? (i := 548) (by decide +kernel)⟩
theorem lw_p26 : lw_okq (⟨"GreyReel$PacketWriter", "writeNumber", "(II)V"⟩, 4) := ⟨⟨by decide +kernel, by decide +kernel⟩, List.mem_of_getElem? (i := 73) (by decide +kernel), List.mem_of_getElem? (i := 551) (by decide +kernel), List.mem_of_getElem? (i := 552) (by decide +kernel)⟩
theorem lw_p27 : lw_okq (⟨"GreyReel", "steer", "(LGreyReel$Picture;)V"⟩, 14) := ⟨⟨by decide +kernel, by decide +kernel⟩, List.mem_of_getElem? (i := 17) (by decide +kernel), List.mem_of_getElem? (i := 587) (by decide +kernel), List.mem_of_getElem? (i := 588) (by decide +kernel)⟩
theorem lw_p28 : lw_okq (⟨"GreyReel", "pictureAt", "(I)LGreyReel$Picture;"⟩, 14) := ⟨⟨by decide +kernel, by decide +kernel⟩, List.mem_of_getElem? (i := 17) (by decide +kernel), List.mem_of_getElem? (i := 603) (by decide +kernel), List.mem_of_getElem? (i := 604) (by decide +kernel)⟩
theorem lw_p29 : lw_okq (⟨"GreyReel", "handOver", "(LGreyReel$Picture;I)Z"⟩, 14) := ⟨⟨by decide +kernel, by decide +kernel⟩, List.mem_of_getElem? (i := 17) (by decide +kernel), List.mem_of_getElem? (i := 638) (by decide +kernel), List.mem_of_getElem? (i := 639) (by decide +kernel)⟩
theorem lw_p30 : lw_okq (⟨"GreyReel$Viewer", "conceal", "(LGreyReel$Picture;I)V"⟩, 3) := ⟨⟨by decide +kernel, by decide +kernel⟩, List.mem_of_getElem? (i := 92) (by decide +kernel), List.mem_of_getElem? (i := 654) (by decide +kernel), List.mem_of_getElem? (i := 655) (by decide +kernel)⟩
theorem lw_p31 : lw_okq (⟨"GreyReel$Picture", "digestPacket", "(JI)J"⟩, 14) := ⟨⟨by decide +kernel, by decide +kernel⟩, List.mem_of_getElem? (i := 115) (by decide +kernel), List.mem_of_getElem? (i := 726) (by decide +kernel), List.mem_of_getElem? (i := 727) (by decide +kernel)⟩
def lw_privs_2 : List (MethodName × Nat) := [(⟨"GreyReel$Studio", "turnQuarter", "()V"⟩, 4), (⟨"GreyReel$Studio", "turnFour", "(II)V"⟩, 4), (⟨"GreyReel$Studio", "smoothAcross", "(III)V"⟩, 4), (⟨"GreyReel$PacketWriter", "startBand", "(LGreyReel$Picture;)V"⟩, 4), (⟨"GreyReel$PacketWriter", "put", "(II)V"⟩, 4), (⟨"GreyReel$PacketWriter", "writeBlock", "(LGreyReel$Picture;I)V"⟩, 4), (⟨"GreyReel$PacketWriter", "writeKind", "(I)V"⟩, 4), (⟨"GreyReel$PacketWriter", "putOnes", "(I)V"⟩, 4), (⟨"GreyReel$PacketWriter", "writeSigned", "(I)V"⟩, 4), (⟨"GreyReel$PacketWriter", "writeLevels", "([II)V"⟩, 4), (⟨"GreyReel$PacketWriter", "writeNumber", "(II)V"⟩, 4), (⟨"GreyReel", "steer", "(LGreyReel$Picture;)V"⟩, 14), (⟨"GreyReel", "pictureAt", "(I)LGreyReel$Picture;"⟩, 14), (⟨"GreyReel", "handOver", "(LGreyReel$Picture;I)Z"⟩, 14), (⟨"GreyReel$Viewer", "conceal", "(LGreyReel$Picture;I)V"⟩, 3), (⟨"GreyReel$Picture", "digestPacket", "(JI)J"⟩, 14)]
theorem lw_r2 : ∀ q ∈ lw_privs_2, lw_okq q := List.forall_mem_cons.mpr ⟨lw_p16, List.forall_mem_cons.mpr ⟨lw_p17, List.forall_mem_cons.mpr ⟨lw_p18, List.forall_mem_cons.mpr ⟨lw_p19, List.forall_mem_cons.mpr ⟨lw_p20, List.forall_mem_cons.mpr ⟨lw_p21, List.forall_mem_cons.mpr ⟨lw_p22, List.forall_mem_cons.mpr ⟨lw_p23, List.forall_mem_cons.mpr ⟨lw_p24, List.forall_mem_cons.mpr ⟨lw_p25, List.forall_mem_cons.mpr ⟨lw_p26, List.forall_mem_cons.mpr ⟨lw_p27, List.forall_mem_cons.mpr ⟨lw_p28, List.forall_mem_cons.mpr ⟨lw_p29, List.forall_mem_cons.mpr ⟨lw_p30, List.forall_mem_cons.mpr ⟨lw_p31, fun _ h => absurd h List.not_mem_nil⟩⟩⟩⟩⟩⟩⟩⟩⟩⟩⟩⟩⟩⟩⟩⟩
def lw_privs : List (MethodName × Nat) := lw_privs_1 ++ (lw_privs_2)
def lw_tbl : List Cond := k2_sels lw_privs ++ tables_1
theorem lw_privs_ok : ∀ q ∈ lw_privs, lw_okq q := by
  show ∀ q ∈ lw_privs_1 ++ (lw_privs_2), lw_okq q
  exact List.forall_mem_append.mpr ⟨lw_r1, lw_r2⟩
/-- the streams that the claim lets the run draw from -/
abbrev lw_cs : List Choice := [Jvm.Choice.named "NaN.bits"]
theorem lw_bits : nanBits ∈ lw_cs := by first | decide | exact List.mem_cons_self | simp [lw_cs, nanBits]
/-! ===== BEGIN words of one list among another's, by their places ===== -/
theorem goodIn_r {big : List Cond} (ws : List Cond) (ps : List Nat) (hp : ws = ps.filterMap (fun i => big[i]?)) (h : ws.all goodWord = true) : GoodIn big ws := by
  intro w hw
  have h1 := List.all_eq_true.mp h w hw
  rw [hp] at hw
  obtain ⟨i, -, hi⟩ := List.mem_filterMap.mp hw
  have hm : w ∈ big := by first | exact List.mem_of_getElem? hi | exact List.getElem?_mem hi
  exact ⟨hm, good_of_word h1⟩
theorem goodIn_app {big a b : List Cond} (ha : GoodIn big a) (hb : GoodIn big b) : GoodIn big (a ++ b) := fun w h => (List.mem_append.mp h).elim (ha w) (hb w)
theorem goodIn_ca {big a b : List Cond} {c : Cond} (ha : GoodIn big (c :: a)) (hb : GoodIn big b) : GoodIn big (c :: (a ++ b)) := fun w h => (List.mem_cons.mp h).elim (fun e => ha w (List.mem_cons.mpr (Or.inl e))) (fun h => (List.mem_append.mp h).elim (fun h => ha w (List.mem_cons.mpr (Or.inr h))) (hb w))
theorem goodIn_sub {big ws : List Cond} (hm : ∀ w ∈ ws, w ∈ big) (h : ws.all goodWord = true) : GoodIn big ws := fun w hw => ⟨hm w hw, good_of_word (List.all_eq_true.mp h w hw)⟩
/-! ===== END ===== -/

/-! ===== BEGIN exceptions that leave a method, and their catching by the caller (launches without stack traces) ===== -/
section VXA
/-! The laws vx_back, vx_callV, vx_callS, vx_callSW, vx_throw0, vx_throwS follow proofs of the library, with one case more: JvmDerived/Free/Laws.lean (Back.of_free), Shelf42/LK1.lean (callV, callS), Shelf/KitTraced.lean (throwNew0V, throwNewS). -/
/-- where a method has thrown q: the class by its name, the cell, what was written, the world -/
def vx_T (XC : String → State → State → Prop) (st : State) (q : Addr) (t : State) (mc ms : Nat) (free : Addr → Prop) : Prop :=
  ∃ (E : String) (ce : Cell) (L : List Loc), XC E st t ∧ t.heap[q]? = some ce ∧ ce.vm = .none ∧ st.vm.findClass E = some ce.cls ∧ st.WarmedH t.vm ∧ st.sameButNew ({ t with vm := st.vm } : State) L mc ms ∧ ∀ z ∈ L, free z.base
def vx_Q (Qc : Array Value → State → Outcome → State → Prop) (XC : String → State → State → Prop) (mc ms : Nat) (free : Addr → Prop) : Array Value → State → Outcome → State → Prop := fun a st o t =>
  (Qc a st o t ∧ ∃ L, FrameEnd st o t L mc ms ∧ ∀ q ∈ L, free q.base) ∨ ∃ q, o = .threw q ∧ vx_T XC st q t mc ms free
/-- a callee that returns or throws -/
def vx_Met (l : Launch) (y : MethodName) (ws : List Cond) (rm : Room) (Pc : Array Value → State → Prop) (Qc : Array Value → State → Outcome → State → Prop) (XC : String → State → State → Prop) (mc ms : Nat) (free : Addr → Prop) : Prop :=
  MetFree l y (headSpec ws rm) Pc (fun _ _ _ _ _ => True) (vx_Q Qc XC mc ms free)
def vx_Post (XC : String → State → State → Prop) (mc ms : Nat) (free : Addr → Prop) : Pt → Array Value → Addr → Pt → Prop := fun A a q B =>
  ∃ (g : JFrame) (mk : MethodId) (t : State) (L : List Loc) (E : String) (ce : Cell), B.U.heap = t.heap ∧ B.U.vm = t.vm ∧ XC E (A.U.calling g mk a) t ∧ t.heap[q]? = some ce ∧ ce.vm = .none ∧ A.U.vm.findClass E = some ce.cls ∧ B.locs = A.locs ++ L ∧ (∀ z ∈ L, free z.base) ∧ B.cells = A.cells + mc ∧ B.slots = A.slots + ms
def vx_Back (l : Launch) (R : Room) (p : Program) (e : Env) (below : List Frame) (s : State) (sargs : Array Value) (y : MethodName) (len W9 : Nat)
    (Pre : Pt → Array Value → Prop) (Post : Pt → Array Value → Option Value → Pt → Prop) (PostX : Pt → Array Value → Addr → Pt → Prop) : Prop :=
  ∀ (m : MethodId) (meth : Method) (c : Code) (A : Pt) (g : JFrame) (ig : Instr) (mk : MethodId) (a : Array Value),
    Stand p l e R s m sargs below meth c A.U A.locs A.cells A.slots → g.method = m → g.locals.size = c.maxLocals → decode c.code g.pc = .ok (ig, len) →
    2 * g.monitorRoom + (g.stack.map fun v => v.category).sum ≤ W9 → A.U.methodNamed? y = some mk → Pre A a →
    (∃ (v : Option Value) (B : Pt), Stand p l e R s m sargs below meth c B.U B.locs B.cells B.slots ∧ Post A a v B ∧
      Steps p.tables e below (doInvoke e (A.U.setTop g) [] mk a).1 (B.U.setTop { g with pc := g.pc + len, stack := v.toList ++ g.stack })) ∨
    (∃ (q : Addr) (B : Pt), Stand p l e R s m sargs below meth c B.U B.locs B.cells B.slots ∧ PostX A a q B ∧
      Steps p.tables e below (doInvoke e (A.U.setTop g) [] mk a).1 ((B.U.setTop g).pushFrame (.throwing q)))
section Payer
variable {l : Launch} {R : Room} {p : Program} {e : Env} {below : List Frame} {s : State} {sargs : Array Value} {y : MethodName} {len W9 : Nat}
theorem vx_back {ws : List Cond} {rm : Room} {Pc : Array Value → State → Prop} {Qc : Array Value → State → Outcome → State → Prop} {XC : String → State → State → Prop} {mc ms : Nat} {free : Addr → Prop} {bytes : ByteArray} {maxL : Nat} {ret : Option FieldType}
    (hM : vx_Met l y ws rm Pc Qc XC mc ms free) (hblind : FrameBlind Pc) (hrc : rm.cells = mc) (hrs : rm.slots = ms)
    (hframes : rm.frames + 1 ≤ R.frames) (hlocals : W9 + (maxL + 11) + rm.locals ≤ R.locals)
    (hws : ∀ w ∈ ws, ∀ a' U, s.WarmedH U.vm → w.before a' U = true) (hcode : Cond.code y bytes maxL ret ∈ ws) (hinit : ∀ a' U, s.WarmedH U.vm → (Cond.initialized y.cls).before a' U = true) :
    vx_Back l R p e below s sargs y len W9 (PreOf R mc ms Pc) (PostOf Qc mc ms free) (vx_Post XC mc ms free) := by
  intro m meth c A g ig mk a X hg hsize hdg hW hn hp
  have h1 : (headSpec ws rm).pre.before a A.U = true := atoms_intro fun w hw => hws w hw _ _ X.warmed
  have h2 : (Cond.code y bytes maxL ret).before a A.U = true := hws _ hcode _ _ X.warmed
  have h3 : (Cond.initialized y.cls).before a A.U = true := hinit _ _ X.warmed
  have h4 : A.cells + (headSpec ws rm).room.cells ≤ R.cells := by rw [show (headSpec ws rm).room.cells = mc from hrc]; exact hp.1
  have h5 : A.slots + (headSpec ws rm).room.slots ≤ R.slots := by rw [show (headSpec ws rm).room.slots = ms from hrs]; exact hp.2.1
  have hPc : Pc a (A.U.calling g mk a) := hblind _ _ _ _ hp.2.2
  obtain ⟨U, Ls, c0, s0⟩ := A
  dsimp only [Pt.U, Pt.locs, Pt.cells, Pt.slots] at h1 h2 h3 h4 h5 X hn hPc ⊢
  obtain ⟨methY, cY, hmY, hcY, -, hlY, -, -, -, -⟩ := Cond.code_spec hn h2
  obtain ⟨kY, hkY, -⟩ := className_of_methodNamed hn
  have hinitY : kY.init = .initialized := Cond.initialized_spec (findClass_of_methodNamed hn) hkY h3
  have h : At U g.method c below := by rw [hg]; exact X.here
  have hlocals9 : W9 + (maxL + 11) + (headSpec ws rm).room.locals ≤ R.locals := hlocals
  have happ : (headSpec ws rm).appliesLoose y e.platform (U.calling g mk a) = true :=
    Spec.appliesLoose_calling (g := g) h hdg hn hkY hinitY
      (X.room_calling (g := g) (R' := (headSpec ws rm).room) hsize hmY hcY hframes (by rw [hlY]; omega) h4 h5) h1
  obtain ⟨mid, hmid⟩ := h.above
  have hfr : (U.setTop g).frames = (.java g :: mid) ++ below := by rw [State.frames_setTop' g h.top, hmid]; rfl
  obtain ⟨o, s₂, hsteps, -, hend, hq⟩ := Steps.callFree hM p X.admits X.cas X.clock (acts := []) hfr happ hPc trivial
  have hq' : vx_Q Qc XC mc ms free a (U.calling g mk a) o s₂ := hq
  rw [State.frames_setTop' g h.top] at hend
  obtain ⟨g₀, hg0⟩ := Option.isSome_iff_exists.mp h.top
  obtain ⟨r, hr⟩ := State.topJava?_eq_some.mp hg0
  have hr' : (({ U with heap := s₂.heap, slotsUsed := s₂.slotsUsed } : State).setVm s₂.vm).frames = .java g₀ :: r := hr
  rcases hq' with ⟨hqc, L, hfe, hL⟩ | ⟨q, rfl, E, ce, L, hx, hce, hcv, hcl, hW₂, hsm, hL⟩
  · obtain ⟨⟨v, rfl⟩, hW₂, e2, q2, q3, q4, q5, q6⟩ := id hfe
    have e3 : s₂ = ({ (U.calling g mk a).setFrames s₂.frames with heap := s₂.heap, slotsUsed := s₂.slotsUsed } : State).setVm s₂.vm := by
      have : s₂ = ({ s₂ with vm := (U.calling g mk a).vm } : State).setVm s₂.vm := rfl
      rw [e2] at this
      exact this
    obtain ⟨c₂, i₂, len₂, hc₂, hd₂, hf₂⟩ := hend
    have hW' : U.WarmedH s₂.vm := hW₂
    have hcc : c₂ = c := by
      have h1 : s₂.code? g.method = U.code? g.method := by
        rw [State.code?_eq, State.code?_eq, hW'.alike.method?]
      exact Option.some.inj (hc₂.symm.trans (h1.trans h.code))
    subst hcc
    have hlen : len₂ = len := by rw [hdg] at hd₂; cases hd₂; rfl
    subst hlen
    have hs₂ : s₂ = (({ U with heap := s₂.heap, slotsUsed := s₂.slotsUsed } : State).setVm s₂.vm).setTop { g with pc := g.pc + len₂, stack := v.toList ++ g.stack } := by
      refine e3.trans ?_
      rw [hf₂, State.calling_eq h.top, State.setFrames_setFrames, State.setTop_of_frames _ hr', hr]
      rfl
    have hsame : U.sameButNew ({ U with heap := s₂.heap, slotsUsed := s₂.slotsUsed } : State) L mc ms := by
      refine ⟨?_, q2, q3, q4, q5, q6⟩
      obtain ⟨t, ht, -⟩ := State.frames_cons hr
      show ({ U with heap := s₂.heap, slotsUsed := s₂.slotsUsed } : State) = { U.setFrames U.frames with heap := s₂.heap, slotsUsed := s₂.slotsUsed }
      rw [State.setFrames_self ht]
    subst hg
    refine Or.inl ⟨v, ⟨(({ U with heap := s₂.heap, slotsUsed := s₂.slotsUsed } : State).setVm s₂.vm), Ls ++ L, c0 + mc, s0 + ms⟩,
      ⟨X.admits, X.cas, X.clock, X.frames, X.room, X.hears, X.method, X.code, (X.here.setHeapUsed s₂.heap s₂.slotsUsed).setVm hW'.alike, X.tail, State.WarmedH.trans X.warmed hW', X.limits, X.bytes, X.same.trans (hsame.setVm s.vm)⟩,
      ⟨g, mk, s₂, L, rfl, rfl, hqc, rfl, hL, rfl, rfl⟩, ?_⟩
    show Steps p.tables e below _ ((({ U with heap := s₂.heap, slotsUsed := s₂.slotsUsed } : State).setVm s₂.vm).setTop { g with pc := g.pc + len₂, stack := v.toList ++ g.stack })
    rw [← hs₂]
    exact hsteps
  · obtain ⟨e2, q2, q3, q4, q5, q6⟩ := id hsm
    have e3 : s₂ = ({ (U.calling g mk a).setFrames s₂.frames with heap := s₂.heap, slotsUsed := s₂.slotsUsed } : State).setVm s₂.vm := by
      have : s₂ = ({ s₂ with vm := (U.calling g mk a).vm } : State).setVm s₂.vm := rfl
      rw [e2] at this
      exact this
    have hf₂ : s₂.frames = .throwing q :: .java g :: U.frames.tail := hend
    have hW' : U.WarmedH s₂.vm := hW₂
    have hs₂ : s₂ = ((({ U with heap := s₂.heap, slotsUsed := s₂.slotsUsed } : State).setVm s₂.vm).setTop g).pushFrame (.throwing q) := by
      refine e3.trans ?_
      rw [hf₂, State.calling_eq h.top, State.setFrames_setFrames, State.pushFrame, State.frames_setTop _ hr', State.setTop_of_frames _ hr', State.setFrames_setFrames, hr]
      rfl
    have hsame : U.sameButNew ({ U with heap := s₂.heap, slotsUsed := s₂.slotsUsed } : State) L mc ms := by
      refine ⟨?_, q2, q3, q4, q5, q6⟩
      obtain ⟨t, ht, -⟩ := State.frames_cons hr
      show ({ U with heap := s₂.heap, slotsUsed := s₂.slotsUsed } : State) = { U.setFrames U.frames with heap := s₂.heap, slotsUsed := s₂.slotsUsed }
      rw [State.setFrames_self ht]
    subst hg
    refine Or.inr ⟨q, ⟨(({ U with heap := s₂.heap, slotsUsed := s₂.slotsUsed } : State).setVm s₂.vm), Ls ++ L, c0 + mc, s0 + ms⟩,
      ⟨X.admits, X.cas, X.clock, X.frames, X.room, X.hears, X.method, X.code, (X.here.setHeapUsed s₂.heap s₂.slotsUsed).setVm hW'.alike, X.tail, State.WarmedH.trans X.warmed hW', X.limits, X.bytes, X.same.trans (hsame.setVm s.vm)⟩,
      ⟨g, mk, s₂, L, E, ce, rfl, rfl, hx, hce, hcv, hcl, rfl, hL, rfl, rfl⟩, ?_⟩
    show Steps p.tables e below _ (((({ U with heap := s₂.heap, slotsUsed := s₂.slotsUsed } : State).setVm s₂.vm).setTop g).pushFrame (.throwing q))
    rw [← hs₂]
    exact hsteps
end Payer
section Calls
variable {p : Program} {l : Launch} {e : Env} {R : Room} {s : State} {m : MethodId} {args : Array Value} {below : List Frame} {meth : Method} {c : Code} {T : State} {locs : List Loc} {cells slots : Nat}
theorem vx_callV (X : Stand p l e R s m args below meth c T locs cells slots) (hexec : p.tables.exec = Jvm.exec) {own C : String} {index : Nat} {y : MethodName} {bytes : ByteArray} {maxL : Nat} {ret : Option FieldType}
    (hown : s.vm.findClass own = some m.cls) (hlink : (Cond.methodLink own index y).before args s = true) (hinst : (Cond.instanceMethod y).before args s = true) (hsel : (Cond.selects C y y).before args s = true)
    (hcode : (Cond.code y bytes maxL ret).before args s = true) (hy : y.cls ≠ "java/lang/invoke/MethodHandle" ∧ y.cls ≠ "java/lang/invoke/VarHandle")
    {W9 : Nat} {Pre : Pt → Array Value → Prop} {Post : Pt → Array Value → Option Value → Pt → Prop} {PostX : Pt → Array Value → Addr → Pt → Prop} (hK : vx_Back l R p e below s args y 3 W9 Pre Post PostX)
    {b : Addr} {cellB : Cell} (hcell : T.heap[b]? = some cellB) (hobj : cellB.vm.isStatics = false) (hcls : s.vm.findClass C = some cellB.cls)
    {g : JFrame} (hg : g.method = m) (hsize : g.locals.size = c.maxLocals) {argsL rest : List Value} (hlen : ∀ sig, parseMethodDescriptor y.desc = some sig → argsL.length = sig.parameters.length)
    (hstack : g.stack = argsL.reverse ++ .ref b :: rest) (hW : 2 * g.monitorRoom + (rest.map fun v => v.category).sum ≤ W9) (hdg : decode c.code g.pc = .ok (.invokevirtual index, 3))
    (hpre : ∀ vm₁, s.WarmedH vm₁ → Pre ⟨T.setVm vm₁, locs, cells, slots⟩ (Value.ref b :: argsL).toArray) :
    (∃ (v : Option Value) (vm₁ : Vm) (B : Pt), s.WarmedH vm₁ ∧ Stand p l e R s m args below meth c B.U B.locs B.cells B.slots ∧ Post ⟨T.setVm vm₁, locs, cells, slots⟩ (Value.ref b :: argsL).toArray v B ∧
      ∀ target, Steps p.tables e below (B.U.setTop { g with pc := g.pc + 3, stack := v.toList ++ rest }) target → Steps p.tables e below (T.setTop g) target) ∨
    (∃ (q : Addr) (vm₁ : Vm) (B : Pt), s.WarmedH vm₁ ∧ Stand p l e R s m args below meth c B.U B.locs B.cells B.slots ∧ PostX ⟨T.setVm vm₁, locs, cells, slots⟩ (Value.ref b :: argsL).toArray q B ∧
      Steps p.tables e below (T.setTop g) ((B.U.setTop { g with stack := rest }).pushFrame (.throwing q))) := by
  obtain ⟨mk, methM, hnamed, hmethM, hstM, habM⟩ := Cond.instanceMethod_spec hinst
  obtain ⟨methM', cM, hmethM', -, -, -, -, -, -, hsigM⟩ := Cond.code_spec hnamed hcode
  cases hmethM.symm.trans hmethM'
  obtain ⟨c2, r2, m2, q1, q2, q3, q4, kP, hkP, hkPi⟩ := Cond.selects_spec hsel
  cases hcls.symm.trans q1
  cases (State.methodFound?_of_named hnamed hy).symm.trans q2
  cases hnamed.symm.trans q3
  have hselP : selectMethod e.platform s.vm cellB.cls mk = .method mk := by rw [Launch.admits_selectMethod X.admits]; exact q4
  obtain ⟨vm₁, X₁, hstep₁⟩ := X.invokevirtual hexec hown hlink hnamed hmethM hstM hkP hkPi hy (a := b) (cell := cellB) hcell
    (fun z h => by rw [h] at hobj; cases hobj) hselP hmethM habM hkP hkPi (g := g) hg (argsL := argsL) (rest := rest) (hlen _ hsigM) hstack hdg
  rcases hK m meth c ⟨T.setVm vm₁, locs, cells, slots⟩ { g with stack := rest } (.invokevirtual index) mk (Value.ref b :: argsL).toArray X₁ hg hsize hdg hW (X₁.named hnamed) (hpre vm₁ X₁.warmed) with ⟨v, B, X', hpost, hsteps⟩ | ⟨q, B, X', hpost, hsteps⟩
  · exact Or.inl ⟨v, vm₁, B, X₁.warmed, X', hpost, fun target h => hstep₁ _ fun acts => by rw [doInvoke_state]; exact hsteps.trans h⟩
  · exact Or.inr ⟨q, vm₁, B, X₁.warmed, X', hpost, hstep₁ _ fun acts => by rw [doInvoke_state]; exact hsteps⟩
theorem vx_callS (X : Stand p l e R s m args below meth c T locs cells slots) (hexec : p.tables.exec = Jvm.exec) {own : String} {index : Nat} {y : MethodName} {bytes : ByteArray} {maxL : Nat} {ret : Option FieldType}
    (hown : s.vm.findClass own = some m.cls) (hlink : (Cond.methodLink own index y).before args s = true) (hstat : (Cond.static y).before args s = true) (hinit : (Cond.initialized y.cls).before args s = true)
    (hcode : (Cond.code y bytes maxL ret).before args s = true) (hy : y.cls ≠ "java/lang/invoke/MethodHandle" ∧ y.cls ≠ "java/lang/invoke/VarHandle")
    {W9 : Nat} {Pre : Pt → Array Value → Prop} {Post : Pt → Array Value → Option Value → Pt → Prop} {PostX : Pt → Array Value → Addr → Pt → Prop} (hK : vx_Back l R p e below s args y 3 W9 Pre Post PostX)
    {g : JFrame} (hg : g.method = m) (hsize : g.locals.size = c.maxLocals) {argsL rest : List Value} (hlen : ∀ sig, parseMethodDescriptor y.desc = some sig → argsL.length = sig.parameters.length)
    (hstack : g.stack = argsL.reverse ++ rest) (hW : 2 * g.monitorRoom + (rest.map fun v => v.category).sum ≤ W9) (hdg : decode c.code g.pc = .ok (.invokestatic index, 3))
    (hpre : ∀ vm₁, s.WarmedH vm₁ → Pre ⟨T.setVm vm₁, locs, cells, slots⟩ argsL.toArray) :
    (∃ (v : Option Value) (vm₁ : Vm) (B : Pt), s.WarmedH vm₁ ∧ Stand p l e R s m args below meth c B.U B.locs B.cells B.slots ∧ Post ⟨T.setVm vm₁, locs, cells, slots⟩ argsL.toArray v B ∧
      ∀ target, Steps p.tables e below (B.U.setTop { g with pc := g.pc + 3, stack := v.toList ++ rest }) target → Steps p.tables e below (T.setTop g) target) ∨
    (∃ (q : Addr) (vm₁ : Vm) (B : Pt), s.WarmedH vm₁ ∧ Stand p l e R s m args below meth c B.U B.locs B.cells B.slots ∧ PostX ⟨T.setVm vm₁, locs, cells, slots⟩ argsL.toArray q B ∧
      Steps p.tables e below (T.setTop g) ((B.U.setTop { g with stack := rest }).pushFrame (.throwing q))) := by
  obtain ⟨mk, hnamed⟩ := Cond.code_named hcode
  obtain ⟨methM, cM, hmethM, -, -, -, -, -, -, hsigM⟩ := Cond.code_spec hnamed hcode
  have hstatic : methM.isStatic = true := Cond.static_spec hnamed hmethM hstat
  obtain ⟨kP, hkP, -⟩ := className_of_methodNamed hnamed
  have hinitP : kP.init = .initialized := Cond.initialized_spec (findClass_of_methodNamed hnamed) hkP hinit
  obtain ⟨vm₁, X₁, hstep₁⟩ := X.invokestatic hexec hown hlink hnamed hmethM hstatic hkP hinitP hy (g := g) hg (argsL := argsL) (rest := rest) (hlen _ hsigM) hstack hdg
  rcases hK m meth c ⟨T.setVm vm₁, locs, cells, slots⟩ { g with stack := rest } (.invokestatic index) mk argsL.toArray X₁ hg hsize hdg hW (X₁.named hnamed) (hpre vm₁ X₁.warmed) with ⟨v, B, X', hpost, hsteps⟩ | ⟨q, B, X', hpost, hsteps⟩
  · exact Or.inl ⟨v, vm₁, B, X₁.warmed, X', hpost, fun target h => hstep₁ _ fun acts => by rw [doInvoke_state]; exact hsteps.trans h⟩
  · exact Or.inr ⟨q, vm₁, B, X₁.warmed, X', hpost, hstep₁ _ fun acts => by rw [doInvoke_state]; exact hsteps⟩
end Calls
theorem vx_cls {s : State} {T : State} {vm₁ : Vm} {E : String} {k : ClassId} (hW : s.WarmedH vm₁) (h : (T.setVm vm₁).vm.findClass E = some k) : s.vm.findClass E = some k := by
  have h1 : vm₁.findClass E = some k := h
  rw [hW.alike.findClass] at h1
  exact h1
/-- the method's frame g, with q thrown over it -/
def vx_W (p : Program) (l : Launch) (e : Env) (R : Room) (s : State) (m : MethodId) (args : Array Value) (below : List Frame) (meth : Method) (c : Code) (H : Heap) (locs : List Loc) (cells slots : Nat) (Q : State → Prop) (g : JFrame) (q : Addr) : Prop :=
  ∀ T : State, T.heap = H → Stand p l e R s m args below meth c T locs cells slots → ∃ t, Steps p.tables e below ((T.setTop g).pushFrame (.throwing q)) t ∧ Q t
def vx_Run (p : Program) (l : Launch) (e : Env) (R : Room) (s : State) (m : MethodId) (args : Array Value) (below : List Frame) (meth : Method) (c : Code) (H : Heap) (locs : List Loc) (cells slots mc ms : Nat) (g : JFrame) (rest : List Value) (Qa : State → Outcome → State → Prop) (XC : String → State → State → Prop) (free : Addr → Prop) : Prop :=
  ∀ T : State, T.heap = H → Stand p l e R s m args below meth c T locs cells slots →
    (∃ (v : Option Value) (st₀ t T' : State) (L : List Loc), st₀.heap = H ∧ Stand p l e R s m args below meth c T' (locs ++ L) (cells + mc) (slots + ms) ∧ (∀ q ∈ L, free q.base) ∧ T'.heap = t.heap ∧ T'.vm = t.vm ∧ Qa st₀ (.returned v) t ∧
      Goes p e below T g T' { g with pc := g.pc + 3, stack := v.toList ++ rest }) ∨
    (∃ (q : Addr) (st₀ t T' : State) (L : List Loc) (E : String) (ce : Cell), st₀.heap = H ∧ Stand p l e R s m args below meth c T' (locs ++ L) (cells + mc) (slots + ms) ∧ (∀ z ∈ L, free z.base) ∧ T'.heap = t.heap ∧ T'.vm = t.vm ∧ XC E st₀ t ∧ t.heap[q]? = some ce ∧ ce.vm = .none ∧ s.vm.findClass E = some ce.cls ∧
      Steps p.tables e below (T.setTop g) ((T'.setTop { g with stack := rest }).pushFrame (.throwing q)))
def vx_X {S : Type} (px : S → Prop) (B : String → S → State → Prop) (A : Nat → Prop) : String → State → State → Prop := fun E st t => ∃ u : S, px u ∧ B E u t ∧ va_F A st t
section Runs
variable {p : Program} {l : Launch} {e : Env} {R : Room} {s : State} {m : MethodId} {args : Array Value} {below : List Frame} {meth : Method} {c : Code} {H : Heap} {locs : List Loc} {cells slots : Nat}
variable {y : MethodName} {bytes cc : ByteArray} {maxL nL mc ms n index : Nat} {ret : Option FieldType} {ws : List Cond} {rm : Room} {Pc : Array Value → State → Prop} {Qc : Array Value → State → Outcome → State → Prop} {XC : String → State → State → Prop} {free : Addr → Prop} {Ts : List Cond} {own C : String} {b : Addr} {As rest : List Value} {g : JFrame}
theorem vx_callBack (cb : CallB R s args own index y bytes maxL ret ws rm mc ms n) (hM : vx_Met l y ws rm Pc Qc XC mc ms free) (hbl : FrameBlind Pc) : vx_Back l R p e below s args y 3 8 (PreOf R mc ms Pc) (PostOf Qc mc ms free) (vx_Post XC mc ms free) := by
  obtain ⟨hrc, hrs, hfr, hlo, hws, hcw, -, hini, -⟩ := cb
  exact vx_back (bytes := bytes) (maxL := maxL) (ret := ret) hM hbl hrc hrs hfr hlo hws hcw (fun a' U hW => word_at hW (Or.inl (by first | rfl | simp [Cond.onTables, Cond.keeps, Cond.steady])) hini)
theorem vx_runV (S : CallFix p m c cc nL s args Ts own) (hM : vx_Met l y ws rm Pc Qc XC mc ms free) (cw : CallW R s args own C index y bytes maxL ret ws rm mc ms n) (hp : PreV s H C b Pc As)
    (hg : g.method = m) (hn : As.length = n) (hsize : g.locals.size = nL) (hstack : g.stack = As.reverse ++ .ref b :: rest) (hW : 2 * g.monitorRoom + (rest.map fun v => v.category).sum ≤ 8) (hdg : decode cc g.pc = .ok (.invokevirtual index, 3)) (hf : cells + mc ≤ R.cells ∧ slots + ms ≤ R.slots) :
    vx_Run p l e R s m args below meth c H locs cells slots mc ms g rest (Qc (Value.ref b :: As).toArray) XC free := by
  have hK : vx_Back l R p e below s args y 3 8 (PreOf R mc ms Pc) (PostOf Qc mc ms free) (vx_Post XC mc ms free) := vx_callBack cw.1 hM hp.1
  obtain ⟨⟨-, -, -, -, -, -, hcode, -, hy, hlen, hl⟩, hin, hse⟩ := cw
  obtain ⟨hx, hb, hml, ho, -⟩ := S
  obtain ⟨-, ⟨cellB, hcB, hoB, hclB⟩, hPc⟩ := hp
  intro T hT X
  rcases vx_callV X hx (C := C) (bytes := bytes) (maxL := maxL) (ret := ret) ho hl hin hse hcode hy hK (by rw [hT]; exact hcB) hoB hclB hg (hsize.trans hml.symm) (argsL := As) (rest := rest) (fun sig h => hn.trans (hlen sig h)) hstack hW (by rw [hb]; exact hdg)
    (fun vm₁ hW₁ => ⟨hf.1, hf.2, hPc (T.setVm vm₁) hT hW₁⟩) with ⟨v, vm₁, ⟨U', l2, c2, s2⟩, hW₁, X', ⟨g', mk, t, L, e1, e2, hq, h1, hL, h2, h3⟩, st⟩ | ⟨q, vm₁, ⟨U', l2, c2, s2⟩, hW₁, X', ⟨g', mk, t, L, E, ce, e1, e2, hq, hce, hcv, hcl, h1, hL, h2, h3⟩, st⟩
  · dsimp only [Pt.U, Pt.locs, Pt.cells, Pt.slots] at X' e1 e2 h1 h2 h3 st
    subst h1; subst h2; subst h3
    exact Or.inl ⟨v, (T.setVm vm₁).calling g' mk (Value.ref b :: As).toArray, t, U', L, hT, X', hL, e1, e2, hq, st⟩
  · dsimp only [Pt.U, Pt.locs, Pt.cells, Pt.slots] at X' e1 e2 h1 h2 h3 st hcl
    subst h1; subst h2; subst h3
    exact Or.inr ⟨q, (T.setVm vm₁).calling g' mk (Value.ref b :: As).toArray, t, U', L, E, ce, hT, X', hL, e1, e2, hq, hce, hcv, vx_cls hW₁ hcl, st⟩
theorem vx_runS (S : CallFix p m c cc nL s args Ts own) (hM : vx_Met l y ws rm Pc Qc XC mc ms free) (cw : CallB R s args own index y bytes maxL ret ws rm mc ms n ∧ (Cond.static y).before args s = true) (hp : PreS s H Pc As)
    (hg : g.method = m) (hn : As.length = n) (hsize : g.locals.size = nL) (hstack : g.stack = As.reverse ++ rest) (hW : 2 * g.monitorRoom + (rest.map fun v => v.category).sum ≤ 8) (hdg : decode cc g.pc = .ok (.invokestatic index, 3)) (hf : cells + mc ≤ R.cells ∧ slots + ms ≤ R.slots) :
    vx_Run p l e R s m args below meth c H locs cells slots mc ms g rest (Qc As.toArray) XC free := by
  have hK : vx_Back l R p e below s args y 3 8 (PreOf R mc ms Pc) (PostOf Qc mc ms free) (vx_Post XC mc ms free) := vx_callBack cw.1 hM hp.1
  obtain ⟨⟨-, -, -, -, -, -, hcode, hini, hy, hlen, hl⟩, hstt⟩ := cw
  obtain ⟨hx, hb, hml, ho, -⟩ := S
  intro T hT X
  rcases vx_callS X hx (bytes := bytes) (maxL := maxL) (ret := ret) ho hl hstt hini hcode hy hK hg (hsize.trans hml.symm) (argsL := As) (rest := rest) (fun sig h => hn.trans (hlen sig h)) hstack hW (by rw [hb]; exact hdg)
    (fun vm₁ hW₁ => ⟨hf.1, hf.2, hp.2 (T.setVm vm₁) hT hW₁⟩) with ⟨v, vm₁, ⟨U', l2, c2, s2⟩, hW₁, X', ⟨g', mk, t, L, e1, e2, hq, h1, hL, h2, h3⟩, st⟩ | ⟨q, vm₁, ⟨U', l2, c2, s2⟩, hW₁, X', ⟨g', mk, t, L, E, ce, e1, e2, hq, hce, hcv, hcl, h1, hL, h2, h3⟩, st⟩
  · dsimp only [Pt.U, Pt.locs, Pt.cells, Pt.slots] at X' e1 e2 h1 h2 h3 st
    subst h1; subst h2; subst h3
    exact Or.inl ⟨v, (T.setVm vm₁).calling g' mk As.toArray, t, U', L, hT, X', hL, e1, e2, hq, st⟩
  · dsimp only [Pt.U, Pt.locs, Pt.cells, Pt.slots] at X' e1 e2 h1 h2 h3 st hcl
    subst h1; subst h2; subst h3
    exact Or.inr ⟨q, (T.setVm vm₁).calling g' mk As.toArray, t, U', L, E, ce, hT, X', hL, e1, e2, hq, hce, hcv, vx_cls hW₁ hcl, st⟩
end Runs
section Rows
variable {p : Program} {l : Launch} {e : Env} {R : Room} {s : State} {m : MethodId} {args : Array Value} {below : List Frame} {meth : Method} {c : Code} {H : Heap} {locs : List Loc} {cells slots : Nat} {Q : State → Prop}
variable {mc ms : Nat} {free : Addr → Prop} {A0 A1 : Nat → Prop} {H0 : Heap} {a : Array Value} {pc : Nat} {ls : Array Slot} {st0 rest : List Value}
theorem vx_keep {st₀ t T' : State} {L : List Loc} (h0 : st₀.heap = H) (e1 : T'.heap = t.heap) (hS : va_S A0 H0 H locs) (hA : ∀ q, q < H.size → A1 q → A0 q) (hf : ∀ q, free q → A0 q) (hL : ∀ q ∈ L, free q.base) (hF : va_F A1 st₀ t) :
    H.size ≤ T'.heap.size ∧ (∀ q : Nat, q < H.size → ¬ A1 q → T'.heap[q]? = H[q]?) ∧ va_S A0 H0 T'.heap (locs ++ L) := by
  obtain ⟨hz, hk⟩ := hF
  rw [h0] at hz hk
  exact ⟨by rw [e1]; exact hz, fun q h1 h2 => by rw [e1]; exact hk q h1 h2,
    ⟨Nat.le_trans hS.1 (by rw [e1]; exact hz), fun q h1 h2 => by rw [e1, hk q (Nat.lt_of_lt_of_le h1 hS.1) (fun z => h2 (hA q (Nat.lt_of_lt_of_le h1 hS.1) z))]; exact hS.2.1 q h1 h2, fun q hq => by
      rcases List.mem_append.mp hq with h | h
      · exact hS.2.2 q h
      · exact hf _ (hL q h)⟩⟩
theorem vx_calli {S SX : Type} {post : Int32 → S → Prop} {px : SX → Prop} {B : S → State → Prop} {BX : String → SX → State → Prop} {AX : Nat → Prop} (hr : vx_Run p l e R s m args below meth c H locs cells slots mc ms (F0 m pc ls st0) rest (va_Qi post B A1 a) (vx_X px BX AX) free) (hS : va_S A0 H0 H locs) (hA : ∀ q, q < H.size → A1 q → A0 q) (hf : ∀ q, free q → A0 q) (hAX : ∀ q, q < H.size → AX q → A0 q)
    (kx : ∀ (E : String) (ce : Cell) (q9 : Addr) (u : SX) (t : State) (H1 : Heap) (locs1 : List Loc), t.heap = H1 → s.vm.Alike t.vm → px u → BX E u t → H.size ≤ H1.size → (∀ q : Nat, q < H.size → ¬ AX q → H1[q]? = H[q]?) → va_S A0 H0 H1 locs1 → H1[q9]? = some ce → ce.vm = .none → s.vm.findClass E = some ce.cls → vx_W p l e R s m args below meth c H1 locs1 (cells + mc) (slots + ms) Q (F0 m pc ls rest) q9)
    (kk : ∀ (r : Int32) (u : S) (t : State) (H1 : Heap) (locs1 : List Loc), t.heap = H1 → s.vm.Alike t.vm → post r u → B u t → H.size ≤ H1.size → (∀ q : Nat, q < H.size → ¬ A1 q → H1[q]? = H[q]?) → va_S A0 H0 H1 locs1 → W p l e R s m args below meth c H1 locs1 (cells + mc) (slots + ms) Q (F0 m (pc + 3) ls (.int r :: rest))) : W p l e R s m args below meth c H locs cells slots Q (F0 m pc ls st0) := by
  intro T hT X
  rcases hr T hT X with ⟨v, st₀, t, T', L, h0, X', hL, e1, e2, ⟨⟨r, u, hv, hp, hb⟩, hF⟩, st⟩ | ⟨q, st₀, t, T', L, E, ce, h0, X', hL, e1, e2, ⟨u, hp, hb, hF⟩, hce, hcv, hcl, st⟩
  · cases hv
    obtain ⟨k1, k2, k3⟩ := vx_keep h0 e1 hS hA hf hL hF
    obtain ⟨t2, a1, b1⟩ := kk r u t T'.heap (locs ++ L) e1.symm (by rw [← e2]; exact X'.warmed.alike) hp hb k1 k2 k3 T' rfl X'
    exact ⟨t2, st t2 a1, b1⟩
  · obtain ⟨k1, k2, k3⟩ := vx_keep h0 e1 hS hAX hf hL hF
    obtain ⟨t2, a1, b1⟩ := kx E ce q u t T'.heap (locs ++ L) e1.symm (by rw [← e2]; exact X'.warmed.alike) hp hb k1 k2 k3 (by rw [e1]; exact hce) hcv hcl T' rfl X'
    exact ⟨t2, st.trans a1, b1⟩
theorem vx_calll {S SX : Type} {post : Int64 → S → Prop} {px : SX → Prop} {B : S → State → Prop} {BX : String → SX → State → Prop} {AX : Nat → Prop} (hr : vx_Run p l e R s m args below meth c H locs cells slots mc ms (F0 m pc ls st0) rest (va_Ql post B A1 a) (vx_X px BX AX) free) (hS : va_S A0 H0 H locs) (hA : ∀ q, q < H.size → A1 q → A0 q) (hf : ∀ q, free q → A0 q) (hAX : ∀ q, q < H.size → AX q → A0 q)
    (kx : ∀ (E : String) (ce : Cell) (q9 : Addr) (u : SX) (t : State) (H1 : Heap) (locs1 : List Loc), t.heap = H1 → s.vm.Alike t.vm → px u → BX E u t → H.size ≤ H1.size → (∀ q : Nat, q < H.size → ¬ AX q → H1[q]? = H[q]?) → va_S A0 H0 H1 locs1 → H1[q9]? = some ce → ce.vm = .none → s.vm.findClass E = some ce.cls → vx_W p l e R s m args below meth c H1 locs1 (cells + mc) (slots + ms) Q (F0 m pc ls rest) q9)
    (kk : ∀ (r : Int64) (u : S) (t : State) (H1 : Heap) (locs1 : List Loc), t.heap = H1 → s.vm.Alike t.vm → post r u → B u t → H.size ≤ H1.size → (∀ q : Nat, q < H.size → ¬ A1 q → H1[q]? = H[q]?) → va_S A0 H0 H1 locs1 → W p l e R s m args below meth c H1 locs1 (cells + mc) (slots + ms) Q (F0 m (pc + 3) ls (.long r :: rest))) : W p l e R s m args below meth c H locs cells slots Q (F0 m pc ls st0) := by
  intro T hT X
  rcases hr T hT X with ⟨v, st₀, t, T', L, h0, X', hL, e1, e2, ⟨⟨r, u, hv, hp, hb⟩, hF⟩, st⟩ | ⟨q, st₀, t, T', L, E, ce, h0, X', hL, e1, e2, ⟨u, hp, hb, hF⟩, hce, hcv, hcl, st⟩
  · cases hv
    obtain ⟨k1, k2, k3⟩ := vx_keep h0 e1 hS hA hf hL hF
    obtain ⟨t2, a1, b1⟩ := kk r u t T'.heap (locs ++ L) e1.symm (by rw [← e2]; exact X'.warmed.alike) hp hb k1 k2 k3 T' rfl X'
    exact ⟨t2, st t2 a1, b1⟩
  · obtain ⟨k1, k2, k3⟩ := vx_keep h0 e1 hS hAX hf hL hF
    obtain ⟨t2, a1, b1⟩ := kx E ce q u t T'.heap (locs ++ L) e1.symm (by rw [← e2]; exact X'.warmed.alike) hp hb k1 k2 k3 (by rw [e1]; exact hce) hcv hcl T' rfl X'
    exact ⟨t2, st.trans a1, b1⟩
theorem vx_callf {S SX : Type} {post : UInt32 → S → Prop} {px : SX → Prop} {B : S → State → Prop} {BX : String → SX → State → Prop} {AX : Nat → Prop} (hr : vx_Run p l e R s m args below meth c H locs cells slots mc ms (F0 m pc ls st0) rest (va_Qf post B A1 a) (vx_X px BX AX) free) (hS : va_S A0 H0 H locs) (hA : ∀ q, q < H.size → A1 q → A0 q) (hf : ∀ q, free q → A0 q) (hAX : ∀ q, q < H.size → AX q → A0 q)
    (kx : ∀ (E : String) (ce : Cell) (q9 : Addr) (u : SX) (t : State) (H1 : Heap) (locs1 : List Loc), t.heap = H1 → s.vm.Alike t.vm → px u → BX E u t → H.size ≤ H1.size → (∀ q : Nat, q < H.size → ¬ AX q → H1[q]? = H[q]?) → va_S A0 H0 H1 locs1 → H1[q9]? = some ce → ce.vm = .none → s.vm.findClass E = some ce.cls → vx_W p l e R s m args below meth c H1 locs1 (cells + mc) (slots + ms) Q (F0 m pc ls rest) q9)
    (kk : ∀ (r : UInt32) (u : S) (t : State) (H1 : Heap) (locs1 : List Loc), t.heap = H1 → s.vm.Alike t.vm → post r u → B u t → H.size ≤ H1.size → (∀ q : Nat, q < H.size → ¬ A1 q → H1[q]? = H[q]?) → va_S A0 H0 H1 locs1 → W p l e R s m args below meth c H1 locs1 (cells + mc) (slots + ms) Q (F0 m (pc + 3) ls (.float r :: rest))) : W p l e R s m args below meth c H locs cells slots Q (F0 m pc ls st0) := by
  intro T hT X
  rcases hr T hT X with ⟨v, st₀, t, T', L, h0, X', hL, e1, e2, ⟨⟨r, u, hv, hp, hb⟩, hF⟩, st⟩ | ⟨q, st₀, t, T', L, E, ce, h0, X', hL, e1, e2, ⟨u, hp, hb, hF⟩, hce, hcv, hcl, st⟩
  · cases hv
    obtain ⟨k1, k2, k3⟩ := vx_keep h0 e1 hS hA hf hL hF
    obtain ⟨t2, a1, b1⟩ := kk r u t T'.heap (locs ++ L) e1.symm (by rw [← e2]; exact X'.warmed.alike) hp hb k1 k2 k3 T' rfl X'
    exact ⟨t2, st t2 a1, b1⟩
  · obtain ⟨k1, k2, k3⟩ := vx_keep h0 e1 hS hAX hf hL hF
    obtain ⟨t2, a1, b1⟩ := kx E ce q u t T'.heap (locs ++ L) e1.symm (by rw [← e2]; exact X'.warmed.alike) hp hb k1 k2 k3 (by rw [e1]; exact hce) hcv hcl T' rfl X'
    exact ⟨t2, st.trans a1, b1⟩
theorem vx_calld {S SX : Type} {post : UInt64 → S → Prop} {px : SX → Prop} {B : S → State → Prop} {BX : String → SX → State → Prop} {AX : Nat → Prop} (hr : vx_Run p l e R s m args below meth c H locs cells slots mc ms (F0 m pc ls st0) rest (va_Qd post B A1 a) (vx_X px BX AX) free) (hS : va_S A0 H0 H locs) (hA : ∀ q, q < H.size → A1 q → A0 q) (hf : ∀ q, free q → A0 q) (hAX : ∀ q, q < H.size → AX q → A0 q)
    (kx : ∀ (E : String) (ce : Cell) (q9 : Addr) (u : SX) (t : State) (H1 : Heap) (locs1 : List Loc), t.heap = H1 → s.vm.Alike t.vm → px u → BX E u t → H.size ≤ H1.size → (∀ q : Nat, q < H.size → ¬ AX q → H1[q]? = H[q]?) → va_S A0 H0 H1 locs1 → H1[q9]? = some ce → ce.vm = .none → s.vm.findClass E = some ce.cls → vx_W p l e R s m args below meth c H1 locs1 (cells + mc) (slots + ms) Q (F0 m pc ls rest) q9)
    (kk : ∀ (r : UInt64) (u : S) (t : State) (H1 : Heap) (locs1 : List Loc), t.heap = H1 → s.vm.Alike t.vm → post r u → B u t → H.size ≤ H1.size → (∀ q : Nat, q < H.size → ¬ A1 q → H1[q]? = H[q]?) → va_S A0 H0 H1 locs1 → W p l e R s m args below meth c H1 locs1 (cells + mc) (slots + ms) Q (F0 m (pc + 3) ls (.double r :: rest))) : W p l e R s m args below meth c H locs cells slots Q (F0 m pc ls st0) := by
  intro T hT X
  rcases hr T hT X with ⟨v, st₀, t, T', L, h0, X', hL, e1, e2, ⟨⟨r, u, hv, hp, hb⟩, hF⟩, st⟩ | ⟨q, st₀, t, T', L, E, ce, h0, X', hL, e1, e2, ⟨u, hp, hb, hF⟩, hce, hcv, hcl, st⟩
  · cases hv
    obtain ⟨k1, k2, k3⟩ := vx_keep h0 e1 hS hA hf hL hF
    obtain ⟨t2, a1, b1⟩ := kk r u t T'.heap (locs ++ L) e1.symm (by rw [← e2]; exact X'.warmed.alike) hp hb k1 k2 k3 T' rfl X'
    exact ⟨t2, st t2 a1, b1⟩
  · obtain ⟨k1, k2, k3⟩ := vx_keep h0 e1 hS hAX hf hL hF
    obtain ⟨t2, a1, b1⟩ := kx E ce q u t T'.heap (locs ++ L) e1.symm (by rw [← e2]; exact X'.warmed.alike) hp hb k1 k2 k3 (by rw [e1]; exact hce) hcv hcl T' rfl X'
    exact ⟨t2, st.trans a1, b1⟩
theorem vx_callv {S SX : Type} {post : S → Prop} {px : SX → Prop} {B : S → State → Prop} {BX : String → SX → State → Prop} {AX : Nat → Prop} (hr : vx_Run p l e R s m args below meth c H locs cells slots mc ms (F0 m pc ls st0) rest (va_Qv post B A1 a) (vx_X px BX AX) free) (hS : va_S A0 H0 H locs) (hA : ∀ q, q < H.size → A1 q → A0 q) (hf : ∀ q, free q → A0 q) (hAX : ∀ q, q < H.size → AX q → A0 q)
    (kx : ∀ (E : String) (ce : Cell) (q9 : Addr) (u : SX) (t : State) (H1 : Heap) (locs1 : List Loc), t.heap = H1 → s.vm.Alike t.vm → px u → BX E u t → H.size ≤ H1.size → (∀ q : Nat, q < H.size → ¬ AX q → H1[q]? = H[q]?) → va_S A0 H0 H1 locs1 → H1[q9]? = some ce → ce.vm = .none → s.vm.findClass E = some ce.cls → vx_W p l e R s m args below meth c H1 locs1 (cells + mc) (slots + ms) Q (F0 m pc ls rest) q9)
    (kk : ∀ (u : S) (t : State) (H1 : Heap) (locs1 : List Loc), t.heap = H1 → s.vm.Alike t.vm → post u → B u t → H.size ≤ H1.size → (∀ q : Nat, q < H.size → ¬ A1 q → H1[q]? = H[q]?) → va_S A0 H0 H1 locs1 → W p l e R s m args below meth c H1 locs1 (cells + mc) (slots + ms) Q (F0 m (pc + 3) ls (rest))) : W p l e R s m args below meth c H locs cells slots Q (F0 m pc ls st0) := by
  intro T hT X
  rcases hr T hT X with ⟨v, st₀, t, T', L, h0, X', hL, e1, e2, ⟨⟨u, hv, hp, hb⟩, hF⟩, st⟩ | ⟨q, st₀, t, T', L, E, ce, h0, X', hL, e1, e2, ⟨u, hp, hb, hF⟩, hce, hcv, hcl, st⟩
  · cases hv
    obtain ⟨k1, k2, k3⟩ := vx_keep h0 e1 hS hA hf hL hF
    obtain ⟨t2, a1, b1⟩ := kk u t T'.heap (locs ++ L) e1.symm (by rw [← e2]; exact X'.warmed.alike) hp hb k1 k2 k3 T' rfl X'
    exact ⟨t2, st t2 a1, b1⟩
  · obtain ⟨k1, k2, k3⟩ := vx_keep h0 e1 hS hAX hf hL hF
    obtain ⟨t2, a1, b1⟩ := kx E ce q u t T'.heap (locs ++ L) e1.symm (by rw [← e2]; exact X'.warmed.alike) hp hb k1 k2 k3 (by rw [e1]; exact hce) hcv hcl T' rfl X'
    exact ⟨t2, st.trans a1, b1⟩
/-- caught by the row x of this method's table; the rows ahead don't take it -/
theorem vx_catch {own name : String} {E : String} {ce : Cell} {q : Addr} (hown : s.vm.findClass own = some m.cls) (pre : List ExceptionTableEntry) (x : ExceptionTableEntry) (suf : List ExceptionTableEntry) (hsplit : c.exceptionTable.toList = pre ++ x :: suf)
    (hpass : ∀ z ∈ pre, covers z pc = false ∨ (z.catchType ≠ 0 ∧ ∃ nm : String, (Cond.classLink own z.catchType nm).before args s = true ∧ va_Nc E nm s)) (hx : covers x pc = true) (h0 : x.catchType ≠ 0)
    (hlink : (Cond.classLink own x.catchType name).before args s = true) (hcast : (Cond.castable E name).before args s = true) (hcell : H[q]? = some ce) (hv : ce.vm = .none) (hcl : s.vm.findClass E = some ce.cls)
    (kk : W p l e R s m args below meth c H locs cells slots Q (F0 m x.handlerPc ls [.ref q])) : vx_W p l e R s m args below meth c H locs cells slots Q (F0 m pc ls rest) q := by
  intro T hT X
  have hpl : e.platform.magicAccessors = ({} : Platform).magicAccessors := by rw [X.admits.platform]
  obtain ⟨c3, c4, hc3, hc4, hasg⟩ := Cond.castable_spec hcast
  cases Option.some.inj (hc3.symm.trans hcl)
  obtain ⟨c5, hc5, hcl5⟩ := Cond.classLink_spec hown hlink e.platform hpl
  cases Option.some.inj (hc4.symm.trans hc5)
  obtain ⟨vm', X', st⟩ := X.thenCaughtThrough q (g := F0 m pc ls rest) rfl (Steps.refl _) (by rw [hT]; exact hcell) (by rw [hv]; rfl) (by obtain ⟨k9, h9, -⟩ := Vm.findClass_spec hcl; exact ⟨k9, h9⟩) pre x suf hsplit
    (fun z hz => by
      rcases hpass z hz with h | ⟨hz0, nm, hl1, hn1⟩
      · exact Or.inl h
      · obtain ⟨c6, hc6, hcl6⟩ := Cond.classLink_spec hown hl1 e.platform hpl
        obtain ⟨a8, b8, h1, h2, h3⟩ := hn1
        cases Option.some.inj (h1.symm.trans hcl)
        cases Option.some.inj (h2.symm.trans hc6)
        exact Or.inr ⟨hz0, _, hcl6, h3⟩) hx (Or.inr ⟨h0, c4, hcl5, hasg⟩)
  obtain ⟨t, a1, b1⟩ := kk (T.setVm vm') hT X'
  exact ⟨t, st.trans a1, b1⟩
end Rows
section Ends
variable {p : Program} {l : Launch} {e : Env} {R : Room} {s : State} {m : MethodId} {args : Array Value} {below : List Frame} {meth : Method} {c : Code} {H : Heap} {locs : List Loc} {cells slots : Nat} {Q : State → Prop}
variable {mc ms : Nat} {free : Addr → Prop} {A0 A1 : Nat → Prop} {H0 : Heap} {a : Array Value} {ls : Array Slot} {st0 rest : List Value}
variable {Qc : Array Value → State → Outcome → State → Prop} {XC : String → State → State → Prop}
/-- what a body that may throw owes at its end -/
def vx_MQ (below : List Frame) (Qc : Array Value → State → Outcome → State → Prop) (XC : String → State → State → Prop) (a : Array Value) (s : State) (mc ms : Nat) (free : Addr → Prop) : State → Prop := fun t =>
  ∃ o, t.status = .running ∧ Ended t below o ∧ vx_Q Qc XC mc ms free a s o t
theorem vx_ret {g : JFrame} {mc ms : Nat} (k : W p l e R s m args below meth c H locs cells slots (MQ below Qc args s mc ms free) g) : W p l e R s m args below meth c H locs cells slots (vx_MQ below Qc XC args s mc ms free) g := by
  intro T hT X
  obtain ⟨t, a1, o, b1, b2, b3, b4⟩ := k T hT X
  exact ⟨t, a1, o, b1, b2, Or.inl ⟨b3, b4⟩⟩
/-- not caught here: it goes on to the caller -/
theorem vx_widen {g : JFrame} {q : Addr} {k n : Nat} (h1 : cells ≤ k) (h2 : slots ≤ n) (kk : vx_W p l e R s m args below meth c H locs k n Q g q) : vx_W p l e R s m args below meth c H locs cells slots Q g q := fun T hT X => kk T hT (stand_widen X h1 h2)
theorem vx_out {pc : Nat} {E : String} {ce : Cell} {q : Addr} {mc ms : Nat} (hout : ∀ x ∈ c.exceptionTable.toList, covers x pc = false) (hlocks : meth.locks = false) (hcell : H[q]? = some ce) (hv : ce.vm = .none) (hcl : s.vm.findClass E = some ce.cls)
    (hx : ∀ t : State, t.heap = H → s.vm.Alike t.vm → XC E s t) (hf : ∀ z ∈ locs, free z.base) (hc : cells ≤ mc) (hs : slots ≤ ms) :
    vx_W p l e R s m args below meth c H locs cells slots (vx_MQ below Qc XC args s mc ms free) (F0 m pc ls rest) q := by
  intro T hT X
  obtain ⟨st1, hrun, hend, hW, hsm⟩ := X.leaveThrown q (g := F0 m pc ls rest) rfl rfl rfl hout hlocks
  have hcell9 : (T.setFrames (.throwing q :: below)).heap[q]? = some ce := by
    show T.heap[q]? = some ce
    rw [hT]; exact hcell
  exact ⟨_, st1, .threw q, hrun, hend, Or.inr ⟨q, rfl, E, ce, locs, hx _ hT hW.alike, hcell9, hv, hcl, hW, hsm.mono hc hs, hf⟩⟩
theorem vx_frame {U : State} {k n : Nat} (h : s.sameButNew ({ U with vm := s.vm } : State) locs k n) : s.heap.size ≤ U.heap.size ∧ ∀ q : Nat, q < s.heap.size → (∀ z ∈ locs, z.base ≠ q) → U.heap[q]? = s.heap[q]? := by
  obtain ⟨-, h2, -, -, -, h6⟩ := h
  refine ⟨h2, fun q hq hz => ?_⟩
  obtain ⟨c9, e1, e2, e3, e4⟩ := h6 q _ (Array.getElem?_eq_getElem hq)
  have hs : c9.slots = (s.heap[q]).slots := Array.ext_getElem? fun i => e4 i fun hm => hz _ hm rfl
  have h9 : c9 = s.heap[q] := by
    rw [hs] at e2
    exact e2
  have e5 : U.heap[q]? = some c9 := e1
  rw [e5, h9, Array.getElem?_eq_getElem hq]
/-- the words of a throw but the four that speak of the heap -/
def vx_no (w : Cond) : Bool := decide (w ≠ .isRef (.static Bundle.tN "UNASSIGNED_STACK" Bundle.steD)) && decide (w ≠ .isRef (.static Bundle.tN "SUPPRESSED_SENTINEL" Bundle.listD)) && decide (w ≠ .laysStatic Bundle.tN "UNASSIGNED_STACK" Bundle.steD) && decide (w ≠ .laysStatic Bundle.tN "SUPPRESSED_SENTINEL" Bundle.listD)
def vx_at0 (own : String) (ic : Nat) (X : String) (names : List String) : List Cond := (Bundle.ownAtoms0 own ic X names).filter vx_no
def vx_atS (own : String) (ic : Nat) (X : String) (names : List String) : List Cond := (Bundle.ownAtoms own ic X names).filter vx_no
/-- a word that the tables alone decide, or a good one -/
def vx_ot (w : Cond) : Bool := w.onTables || goodWord w
theorem vx_ot_at {args a' : Array Value} {s U : State} {w : Cond} (hW : s.WarmedH U.vm) (hvm : s.vm = U.vm) (hg : vx_ot w = true) (h : w.before args s = true) : w.before a' U = true := by
  simp only [vx_ot, Bool.or_eq_true] at hg
  rcases hg with hg | hg
  · exact va_tabs hg hvm h
  · exact word_at hW (good_of_word hg) h
/-- a list's words: the good ones out of the method's own list, the others by premises of their own -/
theorem vx_hat {args : Array Value} {s : State} {L B : List Cond} (h1 : ∀ w ∈ L.filter goodWord, w.before args s = true) (h2 : ∀ w ∈ L.filter (fun w => !goodWord w), w ∈ B) (h3 : ∀ w ∈ B, w.before args s = true) : ∀ w ∈ L, w.before args s = true := by
  intro w hw
  by_cases g : goodWord w = true
  · exact h1 w (List.mem_filter.mpr ⟨hw, g⟩)
  · refine h3 w (h2 w (List.mem_filter.mpr ⟨hw, ?_⟩))
    show (!goodWord w) = true
    cases hgw : goodWord w
    · rfl
    · exact absurd hgw g
theorem vx_c {args : Array Value} {s : State} {w : Cond} {B : List Cond} (h : w.before args s = true) (t : ∀ w ∈ B, w.before args s = true) : ∀ w' ∈ w :: B, w'.before args s = true := fun w' h' => (List.mem_cons.mp h').elim (fun e => by rw [e]; exact h) (t w')
theorem vx_n {args : Array Value} {s : State} : ∀ w ∈ ([] : List Cond), w.before args s = true := fun _ h => nomatch h
theorem vx_own {args : Array Value} {s : State} {L : List Cond} (h1 : ∀ w ∈ L.filter vx_no, w.before args s = true)
    (hU : (Cond.isRef (.static Bundle.tN "UNASSIGNED_STACK" Bundle.steD)).before args s = true) (hN : (Cond.isRef (.static Bundle.tN "SUPPRESSED_SENTINEL" Bundle.listD)).before args s = true)
    (lU : (Cond.laysStatic Bundle.tN "UNASSIGNED_STACK" Bundle.steD).before args s = true) (lN : (Cond.laysStatic Bundle.tN "SUPPRESSED_SENTINEL" Bundle.listD).before args s = true) : ∀ w ∈ L, w.before args s = true := by
  intro w hw
  by_cases e1 : w = .isRef (.static Bundle.tN "UNASSIGNED_STACK" Bundle.steD)
  · rw [e1]; exact hU
  · by_cases e2 : w = .isRef (.static Bundle.tN "SUPPRESSED_SENTINEL" Bundle.listD)
    · rw [e2]; exact hN
    · by_cases e3 : w = .laysStatic Bundle.tN "UNASSIGNED_STACK" Bundle.steD
      · rw [e3]; exact lU
      · by_cases e4 : w = .laysStatic Bundle.tN "SUPPRESSED_SENTINEL" Bundle.listD
        · rw [e4]; exact lN
        · exact h1 w (List.mem_filter.mpr ⟨hw, by unfold vx_no; rw [decide_eq_true e1, decide_eq_true e2, decide_eq_true e3, decide_eq_true e4]; rfl⟩)
/-- where a static field lies, its class's statics cell in H -/
def vx_L (C n d : String) (A : Nat → Prop) (U : State) (H : Heap) : Prop := ∃ (c : ClassId) (k : Class) (i : Nat) (f : Field) (a : Nat) (cell : Cell), U.vm.findClass C = some c ∧ U.fieldFound? C n d = some (c, k, i, f) ∧ f.isStatic = true ∧ k.statics = some a ∧ H[a]? = some cell ∧ cell.vm.isStatics = true ∧ cell.cls = c ∧ f.slot < cell.slots.size ∧ k.staticTypes[f.slot]? = some f.type ∧ ¬ A a
theorem vx_L.moved {C n d : String} {A : Nat → Prop} {u U : State} {H : Heap} (hvm : u.vm.Alike U.vm) (h : vx_L C n d A u H) : vx_L C n d A U H := by
  obtain ⟨c, k, i, f, a, cell, h1, h2, h3, h4, h5, h6, h7, h8, h9, h10⟩ := h
  obtain ⟨k', hi', he⟩ := State.fieldFound?_setVm hvm h2
  exact ⟨c, k', i, f, a, cell, by rw [hvm.findClass]; exact h1, hi', h3, by rw [he]; exact h4, h5, h6, h7, h8, by rw [he]; exact h9, h10⟩
theorem vx_L.kept {C n d : String} {A : Nat → Prop} {U : State} {H H1 : Heap} (h : vx_L C n d A U H) (hq : ∀ a : Nat, a < H.size → ¬ A a → H1[a]? = H[a]?) : vx_L C n d A U H1 := by
  obtain ⟨c, k, i, f, a, cell, h1, h2, h3, h4, h5, h6, h7, h8, h9, h10⟩ := h
  exact ⟨c, k, i, f, a, cell, h1, h2, h3, h4, by rw [hq a (Array.getElem?_eq_some_iff.mp h5).1 h10]; exact h5, h6, h7, h8, h9, h10⟩
theorem vx_L.narrow {C n d : String} {A B : Nat → Prop} {U : State} {H : Heap} (h : vx_L C n d A U H) (hAB : ∀ q, B q → A q) : vx_L C n d B U H := by
  obtain ⟨c, k, i, f, a, cell, h1, h2, h3, h4, h5, h6, h7, h8, h9, h10⟩ := h
  exact ⟨c, k, i, f, a, cell, h1, h2, h3, h4, h5, h6, h7, h8, h9, fun z => h10 (hAB _ z)⟩
theorem vx_L.word {C n d : String} {A : Nat → Prop} {s : State} {args : Array Value} (h : vx_L C n d A s s.heap) : (Cond.laysStatic C n d).before args s = true := by
  obtain ⟨c, k, i, f, a, cell, h1, h2, h3, h4, h5, h6, h7, h8, h9, -⟩ := h
  show (Cond.laysStatic C n d).holds args s none s [] = true
  exact Cond.laysStatic_of h1 h2 h3 h4 h5 h6 h7 h8 h9
/-- .. and what it holds: null or some reference -/
def vx_Zq (C n d : String) (A : Nat → Prop) (U : State) (H : Heap) : Prop := va_Zq C n d A U H ∧ vx_L C n d A U H
theorem vx_Zq.moved {C n d : String} {A : Nat → Prop} {u U : State} {H : Heap} (hvm : u.vm.Alike U.vm) (h : vx_Zq C n d A u H) : vx_Zq C n d A U H := ⟨va_Zq.moved hvm h.1, vx_L.moved hvm h.2⟩
theorem vx_Zq.kept {C n d : String} {A : Nat → Prop} {U : State} {H H1 : Heap} (h : vx_Zq C n d A U H) (hq : ∀ a : Nat, a < H.size → ¬ A a → H1[a]? = H[a]?) : vx_Zq C n d A U H1 := ⟨va_Zq.kept h.1 hq, vx_L.kept h.2 hq⟩
theorem vx_Zq.narrow {C n d : String} {A B : Nat → Prop} {U : State} {H : Heap} (h : vx_Zq C n d A U H) (hAB : ∀ q, B q → A q) : vx_Zq C n d B U H := ⟨va_Zq.narrow h.1 hAB, vx_L.narrow h.2 hAB⟩
theorem vx_Zqof {args : Array Value} {s : State} {C n d : String} {A : Nat → Prop} (hl : (Cond.laysStatic C n d).before args s = true) (hini : (Cond.initialized C).before args s = true) (h : (Cond.isRef (.static C n d)).before args s = true) (hA : ∀ a : Nat, a < s.heap.size → ¬ A a) : vx_Zq C n d A s s.heap := by
  refine ⟨va_Zqof hl hini h hA, ?_⟩
  obtain ⟨c, k, i, f, a, cell, h1, h2, h3, h4, h5, h6, h7, h8, h9⟩ := Cond.laysStatic_spec hl
  exact ⟨c, k, i, f, a, cell, h1, h2, h3, h4, h5, h6, h7, h8, h9, hA a (Array.getElem?_eq_some_iff.mp h5).1⟩
theorem vx_isRef {C n d : String} {v : Value} {A : Nat → Prop} {s : State} {args : Array Value} (h : va_Z C n d v A s s.heap) (hv : v.isRef = true) : (Cond.isRef (.static C n d)).before args s = true := by
  obtain ⟨cf, kf, fi, f, a, cell, h1, h2, h3, h4, h5, h6, h7, -⟩ := h
  have he : (Term.static C n d).eval args s none [] s = some v := by
    simp [Term.eval, State.fieldNamed?, h1, h2, h4, h5, h6, h7]
  simp only [Cond.before, Cond.holds, Cond.value, he]
  cases v <;> simp_all [Value.isRef]
theorem vx_isRefq {C n d : String} {A : Nat → Prop} {s : State} {args : Array Value} (h : va_Zq C n d A s s.heap) : (Cond.isRef (.static C n d)).before args s = true := by
  rcases h with h | ⟨t, h⟩
  · exact vx_isRef h rfl
  · exact vx_isRef h rfl
/-- the same frame, seen from here: as if the method were called anew in this heap -/
theorem vx_rebase {T : State} (X : Stand p l e R s m args below meth c T locs cells slots) {R' : Room} (hf : R'.frames ≤ R.frames) (hl : R'.locals ≤ R.locals) (hc : cells + R'.cells ≤ R.cells) (hs : slots + R'.slots ≤ R.slots) :
    Stand p l e R' ((T.setVm s.vm).setFrames (.invoking m args :: below)) m args below meth c T [] 0 0 := by
  have htop : (T.setVm s.vm).topJava?.isSome := X.here.top
  have hF : ((T.setVm s.vm).setFrames (.invoking m args :: below)).frames = .invoking m args :: below := State.frames_setFrames _ (State.cur_lt_of_top htop)
  obtain ⟨g₀, hg0⟩ := Option.isSome_iff_exists.mp htop
  obtain ⟨r, hr⟩ := State.topJava?_eq_some.mp hg0
  have hl9 : e.platform.stackLimits (T.setVm s.vm).me = e.platform.stackLimits s.me := X.limits
  have hb9 : (T.setVm s.vm).me.stackBytes = s.me.stackBytes := X.bytes
  refine ⟨X.admits, X.cas, X.clock, hF, ?_, X.hears, X.method, X.code, X.here, X.tail, X.warmed, ?_, ?_, ?_⟩
  · have h := X.room
    have hU : ((T.setVm s.vm).setFrames (.invoking m args :: below)).localsInUse = s.localsInUse := by
      rw [State.localsInUse_invoking hF (meth := meth) (c := c) X.method X.code, State.localsInUse_invoking X.frames X.method X.code]
    simp only [State.hasRoom, Bool.and_eq_true, decide_eq_true_eq] at h ⊢
    obtain ⟨⟨⟨⟨h1, h2, h3, h4, h5, h6⟩, h7⟩, h8⟩, h9⟩ := h
    rw [X.frames, List.length_cons] at h2 h3
    have q1 := X.heapSize
    have q2 := X.used
    simp only [hF, hU, List.length_cons, State.stackLimits_setFrames, State.stackBytes_setFrames, hl9, hb9]
    refine ⟨⟨⟨⟨by omega, by omega, by omega, by omega, by omega, h6⟩, ?_⟩, ?_⟩, X.book⟩
    · show T.heap.size + R'.cells ≤ e.platform.maxCells
      omega
    · show T.slotsUsed + R'.slots ≤ e.platform.maxSlots
      omega
  · rw [State.stackLimits_setFrames]; rfl
  · rw [State.stackBytes_setFrames]; rfl
  · refine ⟨?_, Nat.le_refl _, Nat.le_refl _, ?_, ?_, fun a c9 h9 => ⟨c9, h9, rfl, rfl, fun _ _ => rfl⟩⟩
    · obtain ⟨t, ht, -⟩ := State.frames_cons hr
      show T.setVm s.vm = { ((T.setVm s.vm).setFrames (.invoking m args :: below)).setFrames (T.setVm s.vm).frames with heap := T.heap, slotsUsed := T.slotsUsed }
      rw [State.setFrames_setFrames, State.setFrames_self ht]
      rfl
    · show T.slotsUsed = T.slotsUsed + ((T.heap.toList.drop T.heap.size).map (·.slots.size)).sum
      rw [List.drop_eq_nil_of_le (Nat.le_of_eq Array.length_toList)]
      rfl
    · show ((T.heap.toList.drop T.heap.size).map (·.slots.size)).sum ≤ 0
      rw [List.drop_eq_nil_of_le (Nat.le_of_eq Array.length_toList)]
      exact Nat.le_refl _
/-- 'throw new E()': new; dup; invokespecial; athrow -/
theorem vx_throw0 {cc : ByteArray} {pc : Nat} (hexec : p.tables.exec = Jvm.exec) (hb : c.code = cc) (hl : l.stackTraces = false) {own cls : String} {names : List String} {ik ic mc ms : Nat} {A : Nat → Prop}
    (hown : s.vm.findClass own = some m.cls) (hcls : Bundle.fit cls = true) (hnames : ∀ n ∈ names, Bundle.fit n = true)
    (hk : (Cond.classLink own ik cls).before args s = true) (hini : (Cond.initialized cls).before args s = true) (hat : ∀ w ∈ vx_at0 own ic cls names, w.before args s = true)
    (hgood : ∀ w ∈ Cond.classLink own ik cls :: Cond.initialized cls :: vx_at0 own ic cls names, vx_ot w = true)
    (hU : vx_Zq Bundle.tN "UNASSIGNED_STACK" Bundle.steD A s s.heap) (hN : vx_Zq Bundle.tN "SUPPRESSED_SENTINEL" Bundle.listD A s s.heap) (hS : va_S A s.heap H locs) (hsize : ls.size = c.maxLocals)
    (d0 : decode cc pc = .ok (.new ik, 3)) (d3 : decode cc (pc + 3) = .ok (.dup, 1)) (d4 : decode cc (pc + 4) = .ok (.invokespecial ic, 3)) (d7 : decode cc (pc + 7) = .ok (.athrow, 1))
    (hout : ∀ x ∈ c.exceptionTable.toList, covers x (pc + 7) = false)
    (hRframes : names.length + 3 < R.frames) (hRlocals : (rest.map fun v => v.category).sum + (13 * (names.length + 1) + 42) ≤ R.locals) (hRcells : cells + 1 ≤ R.cells) (hRslots : slots + 6 ≤ R.slots) (hlocks : meth.locks = false)
    (hx : ∀ t : State, s.vm.Alike t.vm → H.size ≤ t.heap.size → (∀ q : Nat, q < H.size → t.heap[q]? = H[q]?) → XC cls s t)
    (hf : ∀ z ∈ locs, free z.base) (hc : cells + 1 ≤ mc) (hs : slots + 6 ≤ ms) :
    W p l e R s m args below meth c H locs cells slots (vx_MQ below Qc XC args s mc ms free) (F0 m pc ls rest) := by
  intro T hT X
  have htr : e.platform.stackTraces = false := (show e.platform.stackTraces = l.stackTraces by rw [X.admits.platform]).trans hl
  have Y := vx_rebase X (R' := { frames := R.frames, locals := R.locals, cells := 1, slots := 6 }) (Nat.le_refl _) (Nat.le_refl _) hRcells hRslots
  obtain ⟨s', hA⟩ : ∃ z, z = (T.setVm s.vm).setFrames (.invoking m args :: below) := ⟨_, rfl⟩
  rw [← hA] at Y
  have hvm : s'.vm = s.vm := by rw [hA]; rfl
  have hhp : s'.heap = H := by rw [hA]; exact hT
  have hW0 : s.WarmedH s'.vm := by rw [hvm]; exact State.WarmedH.refl s
  have hat' : ∀ w ∈ vx_at0 own ic cls names, w.before args s' = true := fun w hw => vx_ot_at hW0 hvm.symm (hgood w (List.mem_cons_of_mem _ (List.mem_cons_of_mem _ hw))) (hat w hw)
  have hk' : (Cond.classLink own ik cls).before args s' = true := vx_ot_at hW0 hvm.symm (hgood _ List.mem_cons_self) hk
  have hini' : (Cond.initialized cls).before args s' = true := vx_ot_at hW0 hvm.symm (hgood _ (List.mem_cons_of_mem _ List.mem_cons_self)) hini
  have hU' : vx_Zq Bundle.tN "UNASSIGNED_STACK" Bundle.steD A s' s'.heap := by rw [hhp]; exact vx_Zq.moved hW0.alike (hU.kept hS.2.1)
  have hN' : vx_Zq Bundle.tN "SUPPRESSED_SENTINEL" Bundle.listD A s' s'.heap := by rw [hhp]; exact vx_Zq.moved hW0.alike (hN.kept hS.2.1)
  have h : ∀ w ∈ Bundle.ownAtoms0 own ic cls names, w.before args s' = true := vx_own hat' (vx_isRefq hU'.1) (vx_isRefq hN'.1) hU'.2.word hN'.2.word
  have hown' : s'.vm.findClass own = some m.cls := by rw [hvm]; exact hown
  have hins : (Cond.instantiable cls 6).before args s' = true := h _ (by simp [Bundle.ownAtoms0])
  obtain ⟨vm₁, cX, kX, hfX, hkX, -, -, X₁, st1⟩ := Y.newCold hexec (own := own) (C := cls) (index := ik) (n := 6) hown' hk' hins hini'
    (g := F0 m pc ls rest) rfl (by rw [hb]; exact d0) (Nat.le_refl _) (Nat.le_refl _)
  generalize hT1 : (T.setVm vm₁).pushCell { cls := cX, slots := kX.instanceTypes.map defaultValue, vm := .none } = T1 at X₁ st1
  have hcat : (Value.ref T.heap.size).category = 1 := rfl
  have hcellA : T1.heap[T.heap.size]? = some (freshCell cX kX) := by rw [← hT1]; exact State.heap_pushCell_size _ _
  have d3' : decode c.code (pc + 3) = .ok (.dup, 1) := by rw [hb]; exact d3
  obtain ⟨U, hsteps, hrun, hend, hW, hsame, ce, hce, hO⟩ := X₁.ctorThrow0 hexec htr (own := own) (cls := cls) (names := names) (ic := ic) hown' hcls hnames h (fun x hx => nomatch hx) hfX hkX hcellA (by rw [hhp, hT]; exact Nat.le_refl _)
    (g := { method := m, pc := pc + 4, locals := ls, stack := .ref T.heap.size :: .ref T.heap.size :: rest, locked := none }) rfl hsize rfl rfl (rest := rest) rfl
    (by rw [hb]; exact d4) (by rw [hb]; exact d7) hout hRframes (by simp only [List.map_cons, List.sum_cons, hcat]; omega) hlocks
  obtain ⟨f1, f2⟩ := vx_frame hsame
  rw [hhp] at f1 f2
  have hWs : s.WarmedH U.vm := State.WarmedH.trans hW0 hW
  have hcl : s.vm.findClass cls = some ce.cls := by
    have h9 := hO.cls
    rw [hvm] at h9
    exact h9
  have hall : s.sameButNew ({ U with vm := s.vm } : State) locs mc ms := by
    subst hA
    obtain ⟨e1, e2⟩ := hsame
    rw [State.setFrames_setFrames] at e1
    have h2 : (T.setVm s.vm).sameButNew ({ U with vm := s.vm } : State) [] (0 + 1) (0 + 6) := ⟨e1, e2⟩
    have h3 := X.same.trans h2
    rw [List.append_nil] at h3
    exact h3.mono hc hs
  refine ⟨U, ?_, .threw T.heap.size, hrun, hend, Or.inr ⟨T.heap.size, rfl, cls, ce, locs, hx U hWs.alike f1 (fun q hq => f2 q hq (fun z hz => nomatch hz)), hce, hO.vm, hcl, hWs, hall, hf⟩⟩
  refine st1 _ ?_
  show Steps p.tables e below (T1.setTop { method := m, pc := pc + 3, locals := ls, stack := .ref T.heap.size :: rest, locked := none }) _
  jvm_step X₁.here [X₁.here.top, hexec, d3', Value.category]
  exact hsteps
/-- 'throw new E("text")': new; dup; ldc; invokespecial; athrow -/
theorem vx_throwS {cc : ByteArray} {pc : Nat} (hexec : p.tables.exec = Jvm.exec) (hb : c.code = cc) (hl : l.stackTraces = false) {own cls text : String} {names : List String} {ik is ic mc ms sa : Nat} {A : Nat → Prop}
    (hown : s.vm.findClass own = some m.cls) (hcls : Bundle.fit cls = true) (hnames : ∀ n ∈ names, Bundle.fit n = true)
    (hk : (Cond.classLink own ik cls).before args s = true) (hini : (Cond.initialized cls).before args s = true) (hstr : vk_R own is text sa s) (hat : ∀ w ∈ vx_atS own ic cls names, w.before args s = true)
    (hgood : ∀ w ∈ Cond.classLink own ik cls :: Cond.initialized cls :: vx_atS own ic cls names, vx_ot w = true)
    (hU : vx_Zq Bundle.tN "UNASSIGNED_STACK" Bundle.steD A s s.heap) (hN : vx_Zq Bundle.tN "SUPPRESSED_SENTINEL" Bundle.listD A s s.heap) (hS : va_S A s.heap H locs) (hsize : ls.size = c.maxLocals)
    (d0 : decode cc pc = .ok (.new ik, 3)) (d3 : decode cc (pc + 3) = .ok (.dup, 1)) (d4 : decode cc (pc + 4) = .ok (.ldc is, 2)) (d6 : decode cc (pc + 6) = .ok (.invokespecial ic, 3)) (d9 : decode cc (pc + 9) = .ok (.athrow, 1))
    (hout : ∀ x ∈ c.exceptionTable.toList, covers x (pc + 9) = false)
    (hRframes : names.length + 3 < R.frames) (hRlocals : (rest.map fun v => v.category).sum + (13 * (names.length + 1) + 43) ≤ R.locals) (hRcells : cells + 1 ≤ R.cells) (hRslots : slots + 6 ≤ R.slots) (hlocks : meth.locks = false)
    (hx : ∀ t : State, s.vm.Alike t.vm → H.size ≤ t.heap.size → (∀ q : Nat, q < H.size → t.heap[q]? = H[q]?) → XC cls s t)
    (hf : ∀ z ∈ locs, free z.base) (hc : cells + 1 ≤ mc) (hs : slots + 6 ≤ ms) :
    W p l e R s m args below meth c H locs cells slots (vx_MQ below Qc XC args s mc ms free) (F0 m pc ls rest) := by
  intro T hT X
  have htr : e.platform.stackTraces = false := (show e.platform.stackTraces = l.stackTraces by rw [X.admits.platform]).trans hl
  have Y := vx_rebase X (R' := { frames := R.frames, locals := R.locals, cells := 1, slots := 6 }) (Nat.le_refl _) (Nat.le_refl _) hRcells hRslots
  obtain ⟨s', hA⟩ : ∃ z, z = (T.setVm s.vm).setFrames (.invoking m args :: below) := ⟨_, rfl⟩
  rw [← hA] at Y
  have hvm : s'.vm = s.vm := by rw [hA]; rfl
  have hhp : s'.heap = H := by rw [hA]; exact hT
  have hW0 : s.WarmedH s'.vm := by rw [hvm]; exact State.WarmedH.refl s
  have hat' : ∀ w ∈ vx_atS own ic cls names, w.before args s' = true := fun w hw => vx_ot_at hW0 hvm.symm (hgood w (List.mem_cons_of_mem _ (List.mem_cons_of_mem _ hw))) (hat w hw)
  have hk' : (Cond.classLink own ik cls).before args s' = true := vx_ot_at hW0 hvm.symm (hgood _ List.mem_cons_self) hk
  have hini' : (Cond.initialized cls).before args s' = true := vx_ot_at hW0 hvm.symm (hgood _ (List.mem_cons_of_mem _ List.mem_cons_self)) hini
  have hU' : vx_Zq Bundle.tN "UNASSIGNED_STACK" Bundle.steD A s' s'.heap := by rw [hhp]; exact vx_Zq.moved hW0.alike (hU.kept hS.2.1)
  have hN' : vx_Zq Bundle.tN "SUPPRESSED_SENTINEL" Bundle.listD A s' s'.heap := by rw [hhp]; exact vx_Zq.moved hW0.alike (hN.kept hS.2.1)
  have h : ∀ w ∈ Bundle.ownAtoms own ic cls names, w.before args s' = true := vx_own hat' (vx_isRefq hU'.1) (vx_isRefq hN'.1) hU'.2.word hN'.2.word
  have hown' : s'.vm.findClass own = some m.cls := by rw [hvm]; exact hown
  have hins : (Cond.instantiable cls 6).before args s' = true := h _ (by simp [Bundle.ownAtoms])
  obtain ⟨vm₁, cX, kX, hfX, hkX, -, -, X₁, st1⟩ := Y.newCold hexec (own := own) (C := cls) (index := ik) (n := 6) hown' hk' hins hini'
    (g := F0 m pc ls rest) rfl (by rw [hb]; exact d0) (Nat.le_refl _) (Nat.le_refl _)
  generalize hT1 : (T.setVm vm₁).pushCell { cls := cX, slots := kX.instanceTypes.map defaultValue, vm := .none } = T1 at X₁ st1
  have hcat : (Value.ref T.heap.size).category = 1 := rfl
  have hcellA : T1.heap[T.heap.size]? = some (freshCell cX kX) := by rw [← hT1]; exact State.heap_pushCell_size _ _
  have d3' : decode c.code (pc + 3) = .ok (.dup, 1) := by rw [hb]; exact d3
  have d4' : decode c.code (pc + 4) = .ok (.ldc is, 2) := by rw [hb]; exact d4
  have hstr' : vk_R own is text sa s' := vk_R.warm hW0 hstr
  obtain ⟨U, hsteps, hrun, hend, hW, hsame, ce, hce, hO⟩ := X₁.ctorThrowS hexec htr (own := own) (cls := cls) (names := names) (ic := ic) hown' hcls hnames h (fun x hx => nomatch hx) hfX hkX hcellA (by rw [hhp, hT]; exact Nat.le_refl _) (msg := .ref sa) rfl
    (g := { method := m, pc := pc + 6, locals := ls, stack := .ref sa :: .ref T.heap.size :: .ref T.heap.size :: rest, locked := none }) rfl hsize rfl rfl (rest := rest) rfl
    (by rw [hb]; exact d6) (by rw [hb]; exact d9) hout hRframes (by simp only [List.map_cons, List.sum_cons, hcat]; omega) hlocks
  obtain ⟨f1, f2⟩ := vx_frame hsame
  rw [hhp] at f1 f2
  have hWs : s.WarmedH U.vm := State.WarmedH.trans hW0 hW
  have hcl : s.vm.findClass cls = some ce.cls := by
    have h9 := hO.cls
    rw [hvm] at h9
    exact h9
  have hall : s.sameButNew ({ U with vm := s.vm } : State) locs mc ms := by
    subst hA
    obtain ⟨e1, e2⟩ := hsame
    rw [State.setFrames_setFrames] at e1
    have h2 : (T.setVm s.vm).sameButNew ({ U with vm := s.vm } : State) [] (0 + 1) (0 + 6) := ⟨e1, e2⟩
    have h3 := X.same.trans h2
    rw [List.append_nil] at h3
    exact h3.mono hc hs
  refine ⟨U, ?_, .threw T.heap.size, hrun, hend, Or.inr ⟨T.heap.size, rfl, cls, ce, locs, hx U hWs.alike f1 (fun q hq => f2 q hq (fun z hz => nomatch hz)), hce, hO.vm, hcl, hWs, hall, hf⟩⟩
  refine st1 _ ?_
  show Steps p.tables e below (T1.setTop { method := m, pc := pc + 3, locals := ls, stack := .ref T.heap.size :: rest, locked := none }) _
  jvm_step X₁.here [X₁.here.top, hexec, d3', Value.category]
  exact X₁.ldcString hexec (own := own) (text := text) (index := is) (a := sa) hown' hstr'.1 hstr'.2
    (g := { method := m, pc := pc + 4, locals := ls, stack := .ref T.heap.size :: .ref T.heap.size :: rest, locked := none }) rfl d4' _ hsteps
/-- 'throw new E("text")', the text by a wide index -/
theorem vx_throwSW {cc : ByteArray} {pc : Nat} (hexec : p.tables.exec = Jvm.exec) (hb : c.code = cc) (hl : l.stackTraces = false) {own cls text : String} {names : List String} {ik is ic mc ms sa : Nat} {A : Nat → Prop}
    (hown : s.vm.findClass own = some m.cls) (hcls : Bundle.fit cls = true) (hnames : ∀ n ∈ names, Bundle.fit n = true)
    (hk : (Cond.classLink own ik cls).before args s = true) (hini : (Cond.initialized cls).before args s = true) (hstr : vk_R own is text sa s) (hat : ∀ w ∈ vx_atS own ic cls names, w.before args s = true)
    (hgood : ∀ w ∈ Cond.classLink own ik cls :: Cond.initialized cls :: vx_atS own ic cls names, vx_ot w = true)
    (hU : vx_Zq Bundle.tN "UNASSIGNED_STACK" Bundle.steD A s s.heap) (hN : vx_Zq Bundle.tN "SUPPRESSED_SENTINEL" Bundle.listD A s s.heap) (hS : va_S A s.heap H locs) (hsize : ls.size = c.maxLocals)
    (d0 : decode cc pc = .ok (.new ik, 3)) (d3 : decode cc (pc + 3) = .ok (.dup, 1)) (d4 : decode cc (pc + 4) = .ok (.ldc_w is, 3)) (d7 : decode cc (pc + 7) = .ok (.invokespecial ic, 3)) (d10 : decode cc (pc + 10) = .ok (.athrow, 1))
    (hout : ∀ x ∈ c.exceptionTable.toList, covers x (pc + 10) = false)
    (hRframes : names.length + 3 < R.frames) (hRlocals : (rest.map fun v => v.category).sum + (13 * (names.length + 1) + 43) ≤ R.locals) (hRcells : cells + 1 ≤ R.cells) (hRslots : slots + 6 ≤ R.slots) (hlocks : meth.locks = false)
    (hx : ∀ t : State, s.vm.Alike t.vm → H.size ≤ t.heap.size → (∀ q : Nat, q < H.size → t.heap[q]? = H[q]?) → XC cls s t)
    (hf : ∀ z ∈ locs, free z.base) (hc : cells + 1 ≤ mc) (hs : slots + 6 ≤ ms) :
    W p l e R s m args below meth c H locs cells slots (vx_MQ below Qc XC args s mc ms free) (F0 m pc ls rest) := by
  intro T hT X
  have htr : e.platform.stackTraces = false := (show e.platform.stackTraces = l.stackTraces by rw [X.admits.platform]).trans hl
  have Y := vx_rebase X (R' := { frames := R.frames, locals := R.locals, cells := 1, slots := 6 }) (Nat.le_refl _) (Nat.le_refl _) hRcells hRslots
  obtain ⟨s', hA⟩ : ∃ z, z = (T.setVm s.vm).setFrames (.invoking m args :: below) := ⟨_, rfl⟩
  rw [← hA] at Y
  have hvm : s'.vm = s.vm := by rw [hA]; rfl
  have hhp : s'.heap = H := by rw [hA]; exact hT
  have hW0 : s.WarmedH s'.vm := by rw [hvm]; exact State.WarmedH.refl s
  have hat' : ∀ w ∈ vx_atS own ic cls names, w.before args s' = true := fun w hw => vx_ot_at hW0 hvm.symm (hgood w (List.mem_cons_of_mem _ (List.mem_cons_of_mem _ hw))) (hat w hw)
  have hk' : (Cond.classLink own ik cls).before args s' = true := vx_ot_at hW0 hvm.symm (hgood _ List.mem_cons_self) hk
  have hini' : (Cond.initialized cls).before args s' = true := vx_ot_at hW0 hvm.symm (hgood _ (List.mem_cons_of_mem _ List.mem_cons_self)) hini
  have hU' : vx_Zq Bundle.tN "UNASSIGNED_STACK" Bundle.steD A s' s'.heap := by rw [hhp]; exact vx_Zq.moved hW0.alike (hU.kept hS.2.1)
  have hN' : vx_Zq Bundle.tN "SUPPRESSED_SENTINEL" Bundle.listD A s' s'.heap := by rw [hhp]; exact vx_Zq.moved hW0.alike (hN.kept hS.2.1)
  have h : ∀ w ∈ Bundle.ownAtoms own ic cls names, w.before args s' = true := vx_own hat' (vx_isRefq hU'.1) (vx_isRefq hN'.1) hU'.2.word hN'.2.word
  have hown' : s'.vm.findClass own = some m.cls := by rw [hvm]; exact hown
  have hins : (Cond.instantiable cls 6).before args s' = true := h _ (by simp [Bundle.ownAtoms])
  obtain ⟨vm₁, cX, kX, hfX, hkX, -, -, X₁, st1⟩ := Y.newCold hexec (own := own) (C := cls) (index := ik) (n := 6) hown' hk' hins hini'
    (g := F0 m pc ls rest) rfl (by rw [hb]; exact d0) (Nat.le_refl _) (Nat.le_refl _)
  generalize hT1 : (T.setVm vm₁).pushCell { cls := cX, slots := kX.instanceTypes.map defaultValue, vm := .none } = T1 at X₁ st1
  have hcat : (Value.ref T.heap.size).category = 1 := rfl
  have hcellA : T1.heap[T.heap.size]? = some (freshCell cX kX) := by rw [← hT1]; exact State.heap_pushCell_size _ _
  have d3' : decode c.code (pc + 3) = .ok (.dup, 1) := by rw [hb]; exact d3
  have d4' : decode c.code (pc + 4) = .ok (.ldc_w is, 3) := by rw [hb]; exact d4
  have hstr' : vk_R own is text sa s' := vk_R.warm hW0 hstr
  obtain ⟨U, hsteps, hrun, hend, hW, hsame, ce, hce, hO⟩ := X₁.ctorThrowS hexec htr (own := own) (cls := cls) (names := names) (ic := ic) hown' hcls hnames h (fun x hx => nomatch hx) hfX hkX hcellA (by rw [hhp, hT]; exact Nat.le_refl _) (msg := .ref sa) rfl
    (g := { method := m, pc := pc + 7, locals := ls, stack := .ref sa :: .ref T.heap.size :: .ref T.heap.size :: rest, locked := none }) rfl hsize rfl rfl (rest := rest) rfl
    (by rw [hb]; exact d7) (by rw [hb]; exact d10) hout hRframes (by simp only [List.map_cons, List.sum_cons, hcat]; omega) hlocks
  obtain ⟨f1, f2⟩ := vx_frame hsame
  rw [hhp] at f1 f2
  have hWs : s.WarmedH U.vm := State.WarmedH.trans hW0 hW
  have hcl : s.vm.findClass cls = some ce.cls := by
    have h9 := hO.cls
    rw [hvm] at h9
    exact h9
  have hall : s.sameButNew ({ U with vm := s.vm } : State) locs mc ms := by
    subst hA
    obtain ⟨e1, e2⟩ := hsame
    rw [State.setFrames_setFrames] at e1
    have h2 : (T.setVm s.vm).sameButNew ({ U with vm := s.vm } : State) [] (0 + 1) (0 + 6) := ⟨e1, e2⟩
    have h3 := X.same.trans h2
    rw [List.append_nil] at h3
    exact h3.mono hc hs
  refine ⟨U, ?_, .threw T.heap.size, hrun, hend, Or.inr ⟨T.heap.size, rfl, cls, ce, locs, hx U hWs.alike f1 (fun q hq => f2 q hq (fun z hz => nomatch hz)), hce, hO.vm, hcl, hWs, hall, hf⟩⟩
  refine st1 _ ?_
  show Steps p.tables e below (T1.setTop { method := m, pc := pc + 3, locals := ls, stack := .ref T.heap.size :: rest, locked := none }) _
  jvm_step X₁.here [X₁.here.top, hexec, d3', Value.category]
  exact X₁.ldcStringW hexec (own := own) (text := text) (index := is) (a := sa) hown' hstr'.1 hstr'.2
    (g := { method := m, pc := pc + 4, locals := ls, stack := .ref T.heap.size :: .ref T.heap.size :: rest, locked := none }) rfl d4' _ hsteps
end Ends
section Bodies
variable {l : Launch}
theorem vx_ofW {y : MethodName} {ws ws' : List Cond} {rm : Room} {Pc : Array Value → State → Prop} {Qc : Array Value → State → Outcome → State → Prop} {XC : String → State → State → Prop} {mc ms : Nat} {free : Addr → Prop} {cc : ByteArray} {maxL : Nat} {ret : Option FieldType}
    (hy : plainName y.cls = true) (hw : ws = Cond.code y cc maxL ret :: ws')
    (body : ∀ p e s m args below meth c s₁, BodyLoose p l y (headSpec ws rm) cc maxL ret e s m args below meth c s₁ → c.maxLocals = maxL → (∀ x ∈ c.exceptionTable.toList, False) → Pc args s →
      W p l e (headSpec ws rm).room s m args below meth c s.heap [] 0 0 (vx_MQ below Qc XC args s mc ms free) (entryFrame m args maxL)) : vx_Met l y ws rm Pc Qc XC mc ms free := by
  refine MetFree.of_bodyS (code := cc) (maxLocals := maxL) (ret := ret) hy ?_ ?_
  · intro args s m h hn
    obtain ⟨meth, c, h1, h2, h3, h4, h5, h6, -, -⟩ := Cond.code_spec hn (atoms_spec (ws := ws) h _ (by rw [hw]; exact List.mem_cons_self))
    exact ⟨meth, c, h1, h2, h3, h4, h5, h6⟩
  · intro p e s m args below meth c s₁ B hml hP _
    have hh0 : s₁.heap = s.heap := by rw [B.state]; rfl
    have ht : ∀ x ∈ c.exceptionTable.toList, False := by
      obtain ⟨meth9, c9, h1, h2, -, -, -, -, h7, -⟩ := Cond.code_spec B.named (atoms_spec (ws := ws) B.pre _ (by rw [hw]; exact List.mem_cons_self))
      cases Option.some.inj (h1.symm.trans B.method)
      cases Option.some.inj (h2.symm.trans (Stand.of_body B).code)
      intro x hx
      rw [Array.isEmpty_iff.mp h7] at hx
      cases hx
    obtain ⟨t, a1, o, b1, b2, b3⟩ := body p e s m args below meth c s₁ B hml ht hP s₁ hh0 (Stand.of_body B)
    exact ⟨t, o, a1, b1, b2, b3⟩
/-- the table of a body with handlers -/
theorem vx_table {p : Program} {x y : MethodName} {S : Spec} {cc bytes : ByteArray} {maxL maxL' : Nat} {ret ret' : Option FieldType} {e : Env} {s s₁ : State} {m : MethodId} {args : Array Value} {below : List Frame} {meth : Method} {c : Code} {hh : List (Nat × Nat × Nat × Nat)}
    (B : BodyLoose p l y S cc maxL ret e s m args below meth c s₁) (h : (Cond.codeWith y bytes maxL' ret' hh).before args s = true) : c.exceptionTable.toList = tableOf hh := by
  obtain ⟨m9, meth9, c9, hn9, h1, h2, -, -, h6, -⟩ := Cond.codeWith_spec h
  cases Option.some.inj (hn9.symm.trans B.named)
  cases Option.some.inj (h1.symm.trans B.method)
  cases Option.some.inj (h2.symm.trans (Stand.of_body B).code)
  rw [← h6, table_eq]
end Bodies
end VXA
/-! ===== END ===== -/
/-! ===== BEGIN a static call of a method with an exception table ===== -/
section VXS
variable {p : Program} {l : Launch} {e : Env} {R : Room} {s : State} {m : MethodId} {args : Array Value} {below : List Frame} {meth : Method} {c : Code} {T : State} {H : Heap} {locs : List Loc} {cells slots : Nat}
abbrev vx_CSW (R : Room) (s : State) (args : Array Value) (own : String) (index : Nat) (y : MethodName) (bytes : ByteArray) (maxL : Nat) (ret : Option FieldType) (hh : List (Nat × Nat × Nat × Nat)) (ws : List Cond) (rm : Room) (mc ms n : Nat) : Prop :=
  (rm.cells = mc ∧ rm.slots = ms ∧ rm.frames + 1 ≤ R.frames ∧ 8 + (maxL + 11) + rm.locals ≤ R.locals ∧ (∀ w ∈ ws, ∀ (a' : Array Value) (U : State), s.WarmedH U.vm → w.before a' U = true) ∧ Cond.codeWith y bytes maxL ret hh ∈ ws) ∧
  (Cond.codeWith y bytes maxL ret hh).before args s = true ∧ (Cond.initialized y.cls).before args s = true ∧ (y.cls ≠ "java/lang/invoke/MethodHandle" ∧ y.cls ≠ "java/lang/invoke/VarHandle") ∧
  (∀ sig, parseMethodDescriptor y.desc = some sig → n = sig.parameters.length) ∧ (Cond.methodLink own index y).before args s = true ∧ (Cond.static y).before args s = true
theorem vx_cwSW {own : String} {index maxL mc ms : Nat} {y : MethodName} {bytes : ByteArray} {ret : Option FieldType} {hh : List (Nat × Nat × Nat × Nat)} {Ts ws ws' : List Cond} {rm : Room} (n : Nat) (ht : ∀ w ∈ Ts, w.before args s = true) (hT : GoodIn Ts (va_wsS own index y ws)) (hw : ws = Cond.codeWith y bytes maxL ret hh :: ws') (hrc : rm.cells = mc) (hrs : rm.slots = ms)
    (hd : y.cls ≠ "java/lang/invoke/MethodHandle" ∧ y.cls ≠ "java/lang/invoke/VarHandle" ∧ (parseMethodDescriptor y.desc).map (fun d => d.parameters.length) = some n) (hR : rm.frames + 1 ≤ R.frames ∧ 8 + (maxL + 11) + rm.locals ≤ R.locals) :
    vx_CSW R s args own index y bytes maxL ret hh ws rm mc ms n := by
  have ok : ∀ w ∈ va_wsS own index y ws, w.before args s = true := fun w h => ht w (hT w h).1
  have hG : GoodIn Ts ws := fun w h => hT w (by unfold va_wsS; exact List.mem_append_right _ h)
  have hc : Cond.codeWith y bytes maxL ret hh ∈ ws := by rw [hw]; exact List.mem_cons_self
  refine ⟨⟨hrc, hrs, hR.1, hR.2, pay_in ht hG, hc⟩, ht _ (hG _ hc).1, ok _ (by simp [va_wsS]), ⟨hd.1, hd.2.1⟩, fun sig h => ?_, ok _ (by simp [va_wsS]), ok _ (by simp [va_wsS])⟩
  have h2 := hd.2.2
  rw [h] at h2
  exact (Option.some.inj h2).symm
theorem vx_callSW (X : Stand p l e R s m args below meth c T locs cells slots) (hexec : p.tables.exec = Jvm.exec) {own : String} {index : Nat} {y : MethodName} {bytes : ByteArray} {maxL : Nat} {ret : Option FieldType} {hh : List (Nat × Nat × Nat × Nat)}
    (hown : s.vm.findClass own = some m.cls) (hlink : (Cond.methodLink own index y).before args s = true) (hstat : (Cond.static y).before args s = true) (hinit : (Cond.initialized y.cls).before args s = true)
    (hcode : (Cond.codeWith y bytes maxL ret hh).before args s = true) (hy : y.cls ≠ "java/lang/invoke/MethodHandle" ∧ y.cls ≠ "java/lang/invoke/VarHandle")
    {W9 : Nat} {Pre : Pt → Array Value → Prop} {Post : Pt → Array Value → Option Value → Pt → Prop} (hK : Back l R p e below s args y 3 W9 Pre Post)
    {g : JFrame} (hg : g.method = m) (hsize : g.locals.size = c.maxLocals) {argsL rest : List Value} (hlen : ∀ sig, parseMethodDescriptor y.desc = some sig → argsL.length = sig.parameters.length)
    (hstack : g.stack = argsL.reverse ++ rest) (hW : 2 * g.monitorRoom + (rest.map fun v => v.category).sum ≤ W9) (hdg : decode c.code g.pc = .ok (.invokestatic index, 3))
    (hpre : ∀ vm₁, s.WarmedH vm₁ → Pre ⟨T.setVm vm₁, locs, cells, slots⟩ argsL.toArray) :
    ∃ (v : Option Value) (vm₁ : Vm) (B : Pt), s.WarmedH vm₁ ∧ Stand p l e R s m args below meth c B.U B.locs B.cells B.slots ∧ Post ⟨T.setVm vm₁, locs, cells, slots⟩ argsL.toArray v B ∧
      ∀ target, Steps p.tables e below (B.U.setTop { g with pc := g.pc + 3, stack := v.toList ++ rest }) target → Steps p.tables e below (T.setTop g) target := by
  obtain ⟨mk, methM, cM, hnamed, hmethM, -, -, -, -, -, -, hsigM⟩ := Cond.codeWith_spec hcode
  have hstatic : methM.isStatic = true := Cond.static_spec hnamed hmethM hstat
  obtain ⟨kP, hkP, -⟩ := className_of_methodNamed hnamed
  have hinitP : kP.init = .initialized := Cond.initialized_spec (findClass_of_methodNamed hnamed) hkP hinit
  obtain ⟨vm₁, X₁, hstep₁⟩ := X.invokestatic hexec hown hlink hnamed hmethM hstatic hkP hinitP hy (g := g) hg (argsL := argsL) (rest := rest) (hlen _ hsigM) hstack hdg
  obtain ⟨v, B, X', hpost, hsteps⟩ := hK m meth c ⟨T.setVm vm₁, locs, cells, slots⟩ { g with stack := rest } (.invokestatic index) mk argsL.toArray X₁ hg hsize hdg hW (X₁.named hnamed) (hpre vm₁ X₁.warmed)
  exact ⟨v, vm₁, B, X₁.warmed, X', hpost, fun target h => hstep₁ _ fun acts => by rw [doInvoke_state]; exact hsteps.trans h⟩
theorem vx_runSW {y : MethodName} {bytes cc : ByteArray} {maxL nL mc ms n index : Nat} {ret : Option FieldType} {hh : List (Nat × Nat × Nat × Nat)} {ws : List Cond} {rm : Room} {Pc : Array Value → State → Prop} {Qc : Array Value → State → Outcome → State → Prop} {free : Addr → Prop} {Ts : List Cond} {own : String} {As rest : List Value} {g : JFrame}
    (S : CallFix p m c cc nL s args Ts own) (hM : Met l y ws rm Pc Qc mc ms free) (cw : vx_CSW R s args own index y bytes maxL ret hh ws rm mc ms n) (hp : PreS s H Pc As)
    (hg : g.method = m) (hn : As.length = n) (hsize : g.locals.size = nL) (hstack : g.stack = As.reverse ++ rest) (hW : 2 * g.monitorRoom + (rest.map fun v => v.category).sum ≤ 8) (hdg : decode cc g.pc = .ok (.invokestatic index, 3)) (hf : cells + mc ≤ R.cells ∧ slots + ms ≤ R.slots) :
    va_Run p l e R s m args below meth c H locs cells slots mc ms g rest (Qc As.toArray) (free) := by
  obtain ⟨⟨hrc, hrs, hfr, hlo, hws, hcw⟩, hcode, hini, hy, hlen, hl, hstt⟩ := cw
  have hK : Back l R p e below s args y 3 8 (PreOf R mc ms Pc) (PostOf Qc mc ms free) := va_backW (hh := hh) (bytes := bytes) (maxL := maxL) (ret := ret) hM hp.1 hrc hrs hfr hlo hws hcw (fun a' U hW => word_at hW (Or.inl (by first | rfl | simp [Cond.onTables, Cond.keeps, Cond.steady])) hini)
  obtain ⟨hx, hb, hml, ho, -⟩ := S
  intro T hT X
  obtain ⟨v, vm₁, ⟨U', l2, c2, s2⟩, hW₁, X', ⟨g', mk, t, L, e1, e2, hq, h1, hL, h2, h3⟩, st⟩ := vx_callSW X hx (hh := hh) (bytes := bytes) (maxL := maxL) (ret := ret) ho hl hstt hini hcode hy hK hg (hsize.trans hml.symm) (argsL := As) (rest := rest) (fun sig h => hn.trans (hlen sig h)) hstack hW (by rw [hb]; exact hdg)
    (fun vm₁ hW₁ => ⟨hf.1, hf.2, hp.2 (T.setVm vm₁) hT hW₁⟩)
  dsimp only [Pt.U, Pt.locs, Pt.cells, Pt.slots] at X' e1 e2 h1 h2 h3 st
  subst h1; subst h2; subst h3
  exact ⟨v, (T.setVm vm₁).calling g' mk As.toArray, t, U', L, hT, X', hL, e1, e2, hq, st⟩
/-- not caught here, past rows that name other classes: it goes on to the caller -/
theorem vx_outP {p : Program} {l : Launch} {e : Env} {R : Room} {s : State} {m : MethodId} {args : Array Value} {below : List Frame} {meth : Method} {c : Code} {H : Heap} {locs : List Loc} {cells slots : Nat} {free : Addr → Prop} {ls : Array Slot} {rest : List Value} {Qc : Array Value → State → Outcome → State → Prop} {XC : String → State → State → Prop}
    {pc : Nat} {own E : String} {ce : Cell} {q : Addr} {mc ms : Nat} (hown : s.vm.findClass own = some m.cls) (hlocks : meth.locks = false)
    (hpass : ∀ z ∈ c.exceptionTable.toList, covers z pc = false ∨ (z.catchType ≠ 0 ∧ ∃ nm : String, (Cond.classLink own z.catchType nm).before args s = true ∧ va_Nc E nm s)) (hcell : H[q]? = some ce) (hv : ce.vm = .none) (hcl : s.vm.findClass E = some ce.cls)
    (hx : ∀ t : State, t.heap = H → s.vm.Alike t.vm → XC E s t) (hf : ∀ z ∈ locs, free z.base) (hc : cells ≤ mc) (hs : slots ≤ ms) :
    vx_W p l e R s m args below meth c H locs cells slots (vx_MQ below Qc XC args s mc ms free) (F0 m pc ls rest) q := by
  intro T hT X
  have hpl : e.platform.magicAccessors = ({} : Platform).magicAccessors := by rw [X.admits.platform]
  obtain ⟨vm', hW', X', st⟩ := X.outThrough hlocks q (g := F0 m pc ls rest) rfl rfl rfl (cell := ce) (by rw [hT]; exact hcell) (by rw [hv]; rfl)
    (by obtain ⟨k9, h9, -⟩ := Vm.findClass_spec hcl; exact ⟨k9, h9⟩) (fun z hz => by
      rcases hpass z hz with h | ⟨hz0, nm, hl1, hn1⟩
      · exact Or.inl h
      · obtain ⟨c6, hc6, hcl6⟩ := Cond.classLink_spec hown hl1 e.platform hpl
        obtain ⟨a8, b8, h1, h2, h3⟩ := hn1
        cases Option.some.inj (h1.symm.trans hcl)
        cases Option.some.inj (h2.symm.trans hc6)
        exact Or.inr ⟨hz0, _, hcl6, h3⟩)
  obtain ⟨g₀, hfr⟩ := X'.frames_eq
  have hcell9 : ((T.setVm vm').setFrames (.throwing q :: below)).heap[q]? = some ce := by
    show T.heap[q]? = some ce
    rw [hT]; exact hcell
  have hend : Ended ((T.setVm vm').setFrames (.throwing q :: below)) below (.threw q) := State.frames_setFrames _ (State.cur_lt_of_frames hfr)
  refine ⟨(T.setVm vm').setFrames (.throwing q :: below), ?_, .threw q, X'.here.running, hend, Or.inr ⟨q, rfl, E, ce, locs, hx _ hT (X'.ends _).1.alike, hcell9, hv, hcl, (X'.ends _).1, (X'.ends _).2.mono hc hs, hf⟩⟩
  rw [X.pushThrowing_eq]
  exact st
/-- a thing of a world lies in the heap -/
theorem vx_lt {D : va_G} {cl : List vw_C} {ws : va_W} {H1 : Heap} (h : va_P D cl ws H1) {k : Nat} {q : Nat × va_E} (hk : ws[k]? = some q) : q.1 < H1.size := (h k q hk).lt
end VXS
/-! ===== END ===== -/
/-! ===== BEGIN methods with a table of their own: called by a name, returning or throwing ===== -/
section VXH
/-! vx_backW, vx_callVX, vx_callSX, vx_callVW, vx_runVW, vx_runVX, vx_runSX, vx_ofWH follow the same proofs as their sisters above (Free/Laws.lean, Shelf42/LK1.lean); vx_outP calls Shelf42/NT130.lean (outThrough). -/
section
variable {l : Launch} {R : Room} {p : Program} {e : Env} {below : List Frame} {s : State} {sargs : Array Value} {y : MethodName} {len W9 : Nat}
theorem vx_backW {ws : List Cond} {rm : Room} {Pc : Array Value → State → Prop} {Qc : Array Value → State → Outcome → State → Prop} {XC : String → State → State → Prop} {mc ms : Nat} {free : Addr → Prop} {bytes : ByteArray} {maxL : Nat} {ret : Option FieldType} {hh : List (Nat × Nat × Nat × Nat)}
    (hM : vx_Met l y ws rm Pc Qc XC mc ms free) (hblind : FrameBlind Pc) (hrc : rm.cells = mc) (hrs : rm.slots = ms)
    (hframes : rm.frames + 1 ≤ R.frames) (hlocals : W9 + (maxL + 11) + rm.locals ≤ R.locals)
    (hws : ∀ w ∈ ws, ∀ a' U, s.WarmedH U.vm → w.before a' U = true) (hcode : Cond.codeWith y bytes maxL ret hh ∈ ws) (hinit : ∀ a' U, s.WarmedH U.vm → (Cond.initialized y.cls).before a' U = true) :
    vx_Back l R p e below s sargs y len W9 (PreOf R mc ms Pc) (PostOf Qc mc ms free) (vx_Post XC mc ms free) := by
  intro m meth c A g ig mk a X hg hsize hdg hW hn hp
  have h1 : (headSpec ws rm).pre.before a A.U = true := atoms_intro fun w hw => hws w hw _ _ X.warmed
  have h2 : (Cond.codeWith y bytes maxL ret hh).before a A.U = true := hws _ hcode _ _ X.warmed
  have h3 : (Cond.initialized y.cls).before a A.U = true := hinit _ _ X.warmed
  have h4 : A.cells + (headSpec ws rm).room.cells ≤ R.cells := by rw [show (headSpec ws rm).room.cells = mc from hrc]; exact hp.1
  have h5 : A.slots + (headSpec ws rm).room.slots ≤ R.slots := by rw [show (headSpec ws rm).room.slots = ms from hrs]; exact hp.2.1
  have hPc : Pc a (A.U.calling g mk a) := hblind _ _ _ _ hp.2.2
  obtain ⟨U, Ls, c0, s0⟩ := A
  dsimp only [Pt.U, Pt.locs, Pt.cells, Pt.slots] at h1 h2 h3 h4 h5 X hn hPc ⊢
  obtain ⟨m9, methY, cY, hn9, hmY, hcY, -, hlY, -⟩ := Cond.codeWith_spec h2
  cases Option.some.inj (hn9.symm.trans hn)
  obtain ⟨kY, hkY, -⟩ := className_of_methodNamed hn
  have hinitY : kY.init = .initialized := Cond.initialized_spec (findClass_of_methodNamed hn) hkY h3
  have h : At U g.method c below := by rw [hg]; exact X.here
  have hlocals9 : W9 + (maxL + 11) + (headSpec ws rm).room.locals ≤ R.locals := hlocals
  have happ : (headSpec ws rm).appliesLoose y e.platform (U.calling g mk a) = true :=
    Spec.appliesLoose_calling (g := g) h hdg hn hkY hinitY
      (X.room_calling (g := g) (R' := (headSpec ws rm).room) hsize hmY hcY hframes (by rw [hlY]; omega) h4 h5) h1
  obtain ⟨mid, hmid⟩ := h.above
  have hfr : (U.setTop g).frames = (.java g :: mid) ++ below := by rw [State.frames_setTop' g h.top, hmid]; rfl
  obtain ⟨o, s₂, hsteps, -, hend, hq⟩ := Steps.callFree hM p X.admits X.cas X.clock (acts := []) hfr happ hPc trivial
  have hq' : vx_Q Qc XC mc ms free a (U.calling g mk a) o s₂ := hq
  rw [State.frames_setTop' g h.top] at hend
  obtain ⟨g₀, hg0⟩ := Option.isSome_iff_exists.mp h.top
  obtain ⟨r, hr⟩ := State.topJava?_eq_some.mp hg0
  have hr' : (({ U with heap := s₂.heap, slotsUsed := s₂.slotsUsed } : State).setVm s₂.vm).frames = .java g₀ :: r := hr
  rcases hq' with ⟨hqc, L, hfe, hL⟩ | ⟨q, rfl, E, ce, L, hx, hce, hcv, hcl, hW₂, hsm, hL⟩
  · obtain ⟨⟨v, rfl⟩, hW₂, e2, q2, q3, q4, q5, q6⟩ := id hfe
    have e3 : s₂ = ({ (U.calling g mk a).setFrames s₂.frames with heap := s₂.heap, slotsUsed := s₂.slotsUsed } : State).setVm s₂.vm := by
      have : s₂ = ({ s₂ with vm := (U.calling g mk a).vm } : State).setVm s₂.vm := rfl
      rw [e2] at this
      exact this
    obtain ⟨c₂, i₂, len₂, hc₂, hd₂, hf₂⟩ := hend
    have hW' : U.WarmedH s₂.vm := hW₂
    have hcc : c₂ = c := by
      have h1 : s₂.code? g.method = U.code? g.method := by
        rw [State.code?_eq, State.code?_eq, hW'.alike.method?]
      exact Option.some.inj (hc₂.symm.trans (h1.trans h.code))
    subst hcc
    have hlen : len₂ = len := by rw [hdg] at hd₂; cases hd₂; rfl
    subst hlen
    have hs₂ : s₂ = (({ U with heap := s₂.heap, slotsUsed := s₂.slotsUsed } : State).setVm s₂.vm).setTop { g with pc := g.pc + len₂, stack := v.toList ++ g.stack } := by
      refine e3.trans ?_
      rw [hf₂, State.calling_eq h.top, State.setFrames_setFrames, State.setTop_of_frames _ hr', hr]
      rfl
    have hsame : U.sameButNew ({ U with heap := s₂.heap, slotsUsed := s₂.slotsUsed } : State) L mc ms := by
      refine ⟨?_, q2, q3, q4, q5, q6⟩
      obtain ⟨t, ht, -⟩ := State.frames_cons hr
      show ({ U with heap := s₂.heap, slotsUsed := s₂.slotsUsed } : State) = { U.setFrames U.frames with heap := s₂.heap, slotsUsed := s₂.slotsUsed }
      rw [State.setFrames_self ht]
    subst hg
    refine Or.inl ⟨v, ⟨(({ U with heap := s₂.heap, slotsUsed := s₂.slotsUsed } : State).setVm s₂.vm), Ls ++ L, c0 + mc, s0 + ms⟩,
      ⟨X.admits, X.cas, X.clock, X.frames, X.room, X.hears, X.method, X.code, (X.here.setHeapUsed s₂.heap s₂.slotsUsed).setVm hW'.alike, X.tail, State.WarmedH.trans X.warmed hW', X.limits, X.bytes, X.same.trans (hsame.setVm s.vm)⟩,
      ⟨g, mk, s₂, L, rfl, rfl, hqc, rfl, hL, rfl, rfl⟩, ?_⟩
    show Steps p.tables e below _ ((({ U with heap := s₂.heap, slotsUsed := s₂.slotsUsed } : State).setVm s₂.vm).setTop { g with pc := g.pc + len₂, stack := v.toList ++ g.stack })
    rw [← hs₂]
    exact hsteps
  · obtain ⟨e2, q2, q3, q4, q5, q6⟩ := id hsm
    have e3 : s₂ = ({ (U.calling g mk a).setFrames s₂.frames with heap := s₂.heap, slotsUsed := s₂.slotsUsed } : State).setVm s₂.vm := by
      have : s₂ = ({ s₂ with vm := (U.calling g mk a).vm } : State).setVm s₂.vm := rfl
      rw [e2] at this
      exact this
    have hf₂ : s₂.frames = .throwing q :: .java g :: U.frames.tail := hend
    have hW' : U.WarmedH s₂.vm := hW₂
    have hs₂ : s₂ = ((({ U with heap := s₂.heap, slotsUsed := s₂.slotsUsed } : State).setVm s₂.vm).setTop g).pushFrame (.throwing q) := by
      refine e3.trans ?_
      rw [hf₂, State.calling_eq h.top, State.setFrames_setFrames, State.pushFrame, State.frames_setTop _ hr', State.setTop_of_frames _ hr', State.setFrames_setFrames, hr]
      rfl
    have hsame : U.sameButNew ({ U with heap := s₂.heap, slotsUsed := s₂.slotsUsed } : State) L mc ms := by
      refine ⟨?_, q2, q3, q4, q5, q6⟩
      obtain ⟨t, ht, -⟩ := State.frames_cons hr
      show ({ U with heap := s₂.heap, slotsUsed := s₂.slotsUsed } : State) = { U.setFrames U.frames with heap := s₂.heap, slotsUsed := s₂.slotsUsed }
      rw [State.setFrames_self ht]
    subst hg
    refine Or.inr ⟨q, ⟨(({ U with heap := s₂.heap, slotsUsed := s₂.slotsUsed } : State).setVm s₂.vm), Ls ++ L, c0 + mc, s0 + ms⟩,
      ⟨X.admits, X.cas, X.clock, X.frames, X.room, X.hears, X.method, X.code, (X.here.setHeapUsed s₂.heap s₂.slotsUsed).setVm hW'.alike, X.tail, State.WarmedH.trans X.warmed hW', X.limits, X.bytes, X.same.trans (hsame.setVm s.vm)⟩,
      ⟨g, mk, s₂, L, E, ce, rfl, rfl, hx, hce, hcv, hcl, rfl, hL, rfl, rfl⟩, ?_⟩
    show Steps p.tables e below _ (((({ U with heap := s₂.heap, slotsUsed := s₂.slotsUsed } : State).setVm s₂.vm).setTop g).pushFrame (.throwing q))
    rw [← hs₂]
    exact hsteps
end
variable {p : Program} {l : Launch} {e : Env} {R : Room} {s : State} {m : MethodId} {args : Array Value} {below : List Frame} {meth : Method} {c : Code} {T : State} {H : Heap} {locs : List Loc} {cells slots : Nat}
theorem vx_callVX (X : Stand p l e R s m args below meth c T locs cells slots) (hexec : p.tables.exec = Jvm.exec) {own C : String} {index : Nat} {y : MethodName} {bytes : ByteArray} {maxL : Nat} {ret : Option FieldType} {hh : List (Nat × Nat × Nat × Nat)}
    (hown : s.vm.findClass own = some m.cls) (hlink : (Cond.methodLink own index y).before args s = true) (hinst : (Cond.instanceMethod y).before args s = true) (hsel : (Cond.selects C y y).before args s = true)
    (hcode : (Cond.codeWith y bytes maxL ret hh).before args s = true) (hy : y.cls ≠ "java/lang/invoke/MethodHandle" ∧ y.cls ≠ "java/lang/invoke/VarHandle")
    {W9 : Nat} {Pre : Pt → Array Value → Prop} {Post : Pt → Array Value → Option Value → Pt → Prop} {PostX : Pt → Array Value → Addr → Pt → Prop} (hK : vx_Back l R p e below s args y 3 W9 Pre Post PostX)
    {b : Addr} {cellB : Cell} (hcell : T.heap[b]? = some cellB) (hobj : cellB.vm.isStatics = false) (hcls : s.vm.findClass C = some cellB.cls)
    {g : JFrame} (hg : g.method = m) (hsize : g.locals.size = c.maxLocals) {argsL rest : List Value} (hlen : ∀ sig, parseMethodDescriptor y.desc = some sig → argsL.length = sig.parameters.length)
    (hstack : g.stack = argsL.reverse ++ .ref b :: rest) (hW : 2 * g.monitorRoom + (rest.map fun v => v.category).sum ≤ W9) (hdg : decode c.code g.pc = .ok (.invokevirtual index, 3))
    (hpre : ∀ vm₁, s.WarmedH vm₁ → Pre ⟨T.setVm vm₁, locs, cells, slots⟩ (Value.ref b :: argsL).toArray) :
    (∃ (v : Option Value) (vm₁ : Vm) (B : Pt), s.WarmedH vm₁ ∧ Stand p l e R s m args below meth c B.U B.locs B.cells B.slots ∧ Post ⟨T.setVm vm₁, locs, cells, slots⟩ (Value.ref b :: argsL).toArray v B ∧
      ∀ target, Steps p.tables e below (B.U.setTop { g with pc := g.pc + 3, stack := v.toList ++ rest }) target → Steps p.tables e below (T.setTop g) target) ∨
    (∃ (q : Addr) (vm₁ : Vm) (B : Pt), s.WarmedH vm₁ ∧ Stand p l e R s m args below meth c B.U B.locs B.cells B.slots ∧ PostX ⟨T.setVm vm₁, locs, cells, slots⟩ (Value.ref b :: argsL).toArray q B ∧
      Steps p.tables e below (T.setTop g) ((B.U.setTop { g with stack := rest }).pushFrame (.throwing q))) := by
  obtain ⟨mk, methM, hnamed, hmethM, hstM, habM⟩ := Cond.instanceMethod_spec hinst
  obtain ⟨m8, methM', cM, hn8, hmethM', -, -, -, -, -, -, hsigM⟩ := Cond.codeWith_spec hcode
  cases Option.some.inj (hn8.symm.trans hnamed)
  cases hmethM.symm.trans hmethM'
  obtain ⟨c2, r2, m2, q1, q2, q3, q4, kP, hkP, hkPi⟩ := Cond.selects_spec hsel
  cases hcls.symm.trans q1
  cases (State.methodFound?_of_named hnamed hy).symm.trans q2
  cases hnamed.symm.trans q3
  have hselP : selectMethod e.platform s.vm cellB.cls mk = .method mk := by rw [Launch.admits_selectMethod X.admits]; exact q4
  obtain ⟨vm₁, X₁, hstep₁⟩ := X.invokevirtual hexec hown hlink hnamed hmethM hstM hkP hkPi hy (a := b) (cell := cellB) hcell
    (fun z h => by rw [h] at hobj; cases hobj) hselP hmethM habM hkP hkPi (g := g) hg (argsL := argsL) (rest := rest) (hlen _ hsigM) hstack hdg
  rcases hK m meth c ⟨T.setVm vm₁, locs, cells, slots⟩ { g with stack := rest } (.invokevirtual index) mk (Value.ref b :: argsL).toArray X₁ hg hsize hdg hW (X₁.named hnamed) (hpre vm₁ X₁.warmed) with ⟨v, B, X', hpost, hsteps⟩ | ⟨q, B, X', hpost, hsteps⟩
  · exact Or.inl ⟨v, vm₁, B, X₁.warmed, X', hpost, fun target h => hstep₁ _ fun acts => by rw [doInvoke_state]; exact hsteps.trans h⟩
  · exact Or.inr ⟨q, vm₁, B, X₁.warmed, X', hpost, hstep₁ _ fun acts => by rw [doInvoke_state]; exact hsteps⟩
theorem vx_callSX (X : Stand p l e R s m args below meth c T locs cells slots) (hexec : p.tables.exec = Jvm.exec) {own : String} {index : Nat} {y : MethodName} {bytes : ByteArray} {maxL : Nat} {ret : Option FieldType} {hh : List (Nat × Nat × Nat × Nat)}
    (hown : s.vm.findClass own = some m.cls) (hlink : (Cond.methodLink own index y).before args s = true) (hstat : (Cond.static y).before args s = true) (hinit : (Cond.initialized y.cls).before args s = true)
    (hcode : (Cond.codeWith y bytes maxL ret hh).before args s = true) (hy : y.cls ≠ "java/lang/invoke/MethodHandle" ∧ y.cls ≠ "java/lang/invoke/VarHandle")
    {W9 : Nat} {Pre : Pt → Array Value → Prop} {Post : Pt → Array Value → Option Value → Pt → Prop} {PostX : Pt → Array Value → Addr → Pt → Prop} (hK : vx_Back l R p e below s args y 3 W9 Pre Post PostX)
    {g : JFrame} (hg : g.method = m) (hsize : g.locals.size = c.maxLocals) {argsL rest : List Value} (hlen : ∀ sig, parseMethodDescriptor y.desc = some sig → argsL.length = sig.parameters.length)
    (hstack : g.stack = argsL.reverse ++ rest) (hW : 2 * g.monitorRoom + (rest.map fun v => v.category).sum ≤ W9) (hdg : decode c.code g.pc = .ok (.invokestatic index, 3))
    (hpre : ∀ vm₁, s.WarmedH vm₁ → Pre ⟨T.setVm vm₁, locs, cells, slots⟩ argsL.toArray) :
    (∃ (v : Option Value) (vm₁ : Vm) (B : Pt), s.WarmedH vm₁ ∧ Stand p l e R s m args below meth c B.U B.locs B.cells B.slots ∧ Post ⟨T.setVm vm₁, locs, cells, slots⟩ argsL.toArray v B ∧
      ∀ target, Steps p.tables e below (B.U.setTop { g with pc := g.pc + 3, stack := v.toList ++ rest }) target → Steps p.tables e below (T.setTop g) target) ∨
    (∃ (q : Addr) (vm₁ : Vm) (B : Pt), s.WarmedH vm₁ ∧ Stand p l e R s m args below meth c B.U B.locs B.cells B.slots ∧ PostX ⟨T.setVm vm₁, locs, cells, slots⟩ argsL.toArray q B ∧
      Steps p.tables e below (T.setTop g) ((B.U.setTop { g with stack := rest }).pushFrame (.throwing q))) := by
  obtain ⟨mk, methM, cM, hnamed, hmethM, -, -, -, -, -, -, hsigM⟩ := Cond.codeWith_spec hcode
  have hstatic : methM.isStatic = true := Cond.static_spec hnamed hmethM hstat
  obtain ⟨kP, hkP, -⟩ := className_of_methodNamed hnamed
  have hinitP : kP.init = .initialized := Cond.initialized_spec (findClass_of_methodNamed hnamed) hkP hinit
  obtain ⟨vm₁, X₁, hstep₁⟩ := X.invokestatic hexec hown hlink hnamed hmethM hstatic hkP hinitP hy (g := g) hg (argsL := argsL) (rest := rest) (hlen _ hsigM) hstack hdg
  rcases hK m meth c ⟨T.setVm vm₁, locs, cells, slots⟩ { g with stack := rest } (.invokestatic index) mk argsL.toArray X₁ hg hsize hdg hW (X₁.named hnamed) (hpre vm₁ X₁.warmed) with ⟨v, B, X', hpost, hsteps⟩ | ⟨q, B, X', hpost, hsteps⟩
  · exact Or.inl ⟨v, vm₁, B, X₁.warmed, X', hpost, fun target h => hstep₁ _ fun acts => by rw [doInvoke_state]; exact hsteps.trans h⟩
  · exact Or.inr ⟨q, vm₁, B, X₁.warmed, X', hpost, hstep₁ _ fun acts => by rw [doInvoke_state]; exact hsteps⟩
theorem vx_callVW (X : Stand p l e R s m args below meth c T locs cells slots) (hexec : p.tables.exec = Jvm.exec) {own C : String} {index : Nat} {y : MethodName} {bytes : ByteArray} {maxL : Nat} {ret : Option FieldType} {hh : List (Nat × Nat × Nat × Nat)}
    (hown : s.vm.findClass own = some m.cls) (hlink : (Cond.methodLink own index y).before args s = true) (hinst : (Cond.instanceMethod y).before args s = true) (hsel : (Cond.selects C y y).before args s = true)
    (hcode : (Cond.codeWith y bytes maxL ret hh).before args s = true) (hy : y.cls ≠ "java/lang/invoke/MethodHandle" ∧ y.cls ≠ "java/lang/invoke/VarHandle")
    {W9 : Nat} {Pre : Pt → Array Value → Prop} {Post : Pt → Array Value → Option Value → Pt → Prop} (hK : Back l R p e below s args y 3 W9 Pre Post)
    {b : Addr} {cellB : Cell} (hcell : T.heap[b]? = some cellB) (hobj : cellB.vm.isStatics = false) (hcls : s.vm.findClass C = some cellB.cls)
    {g : JFrame} (hg : g.method = m) (hsize : g.locals.size = c.maxLocals) {argsL rest : List Value} (hlen : ∀ sig, parseMethodDescriptor y.desc = some sig → argsL.length = sig.parameters.length)
    (hstack : g.stack = argsL.reverse ++ .ref b :: rest) (hW : 2 * g.monitorRoom + (rest.map fun v => v.category).sum ≤ W9) (hdg : decode c.code g.pc = .ok (.invokevirtual index, 3))
    (hpre : ∀ vm₁, s.WarmedH vm₁ → Pre ⟨T.setVm vm₁, locs, cells, slots⟩ (Value.ref b :: argsL).toArray) :
    ∃ (v : Option Value) (vm₁ : Vm) (B : Pt), s.WarmedH vm₁ ∧ Stand p l e R s m args below meth c B.U B.locs B.cells B.slots ∧ Post ⟨T.setVm vm₁, locs, cells, slots⟩ (Value.ref b :: argsL).toArray v B ∧
      ∀ target, Steps p.tables e below (B.U.setTop { g with pc := g.pc + 3, stack := v.toList ++ rest }) target → Steps p.tables e below (T.setTop g) target := by
  obtain ⟨mk, methM, hnamed, hmethM, hstM, habM⟩ := Cond.instanceMethod_spec hinst
  obtain ⟨m8, methM', cM, hn8, hmethM', -, -, -, -, -, -, hsigM⟩ := Cond.codeWith_spec hcode
  cases Option.some.inj (hn8.symm.trans hnamed)
  cases hmethM.symm.trans hmethM'
  obtain ⟨c2, r2, m2, q1, q2, q3, q4, kP, hkP, hkPi⟩ := Cond.selects_spec hsel
  cases hcls.symm.trans q1
  cases (State.methodFound?_of_named hnamed hy).symm.trans q2
  cases hnamed.symm.trans q3
  have hselP : selectMethod e.platform s.vm cellB.cls mk = .method mk := by rw [Launch.admits_selectMethod X.admits]; exact q4
  obtain ⟨vm₁, X₁, hstep₁⟩ := X.invokevirtual hexec hown hlink hnamed hmethM hstM hkP hkPi hy (a := b) (cell := cellB) hcell
    (fun z h => by rw [h] at hobj; cases hobj) hselP hmethM habM hkP hkPi (g := g) hg (argsL := argsL) (rest := rest) (hlen _ hsigM) hstack hdg
  obtain ⟨v, B, X', hpost, hsteps⟩ := hK m meth c ⟨T.setVm vm₁, locs, cells, slots⟩ { g with stack := rest } (.invokevirtual index) mk (Value.ref b :: argsL).toArray X₁ hg hsize hdg hW (X₁.named hnamed) (hpre vm₁ X₁.warmed)
  exact ⟨v, vm₁, B, X₁.warmed, X', hpost, fun target h => hstep₁ _ fun acts => by rw [doInvoke_state]; exact hsteps.trans h⟩
abbrev vx_CVW (R : Room) (s : State) (args : Array Value) (own C : String) (index : Nat) (y : MethodName) (bytes : ByteArray) (maxL : Nat) (ret : Option FieldType) (hh : List (Nat × Nat × Nat × Nat)) (ws : List Cond) (rm : Room) (mc ms n : Nat) : Prop :=
  (rm.cells = mc ∧ rm.slots = ms ∧ rm.frames + 1 ≤ R.frames ∧ 8 + (maxL + 11) + rm.locals ≤ R.locals ∧ (∀ w ∈ ws, ∀ (a' : Array Value) (U : State), s.WarmedH U.vm → w.before a' U = true) ∧ Cond.codeWith y bytes maxL ret hh ∈ ws) ∧
  (Cond.codeWith y bytes maxL ret hh).before args s = true ∧ (Cond.initialized y.cls).before args s = true ∧ (y.cls ≠ "java/lang/invoke/MethodHandle" ∧ y.cls ≠ "java/lang/invoke/VarHandle") ∧
  (∀ sig, parseMethodDescriptor y.desc = some sig → n = sig.parameters.length) ∧ (Cond.methodLink own index y).before args s = true ∧ (Cond.instanceMethod y).before args s = true ∧ (Cond.selects C y y).before args s = true
theorem vx_cwVW {own C : String} {index maxL mc ms : Nat} {y : MethodName} {bytes : ByteArray} {ret : Option FieldType} {hh : List (Nat × Nat × Nat × Nat)} {Ts ws ws' : List Cond} {rm : Room} (n : Nat) (ht : ∀ w ∈ Ts, w.before args s = true) (hT : GoodIn Ts (wsV own index C y ws)) (hw : ws = Cond.codeWith y bytes maxL ret hh :: ws') (hrc : rm.cells = mc) (hrs : rm.slots = ms)
    (hd : y.cls = C ∧ y.cls ≠ "java/lang/invoke/MethodHandle" ∧ y.cls ≠ "java/lang/invoke/VarHandle" ∧ (parseMethodDescriptor y.desc).map (fun d => d.parameters.length) = some n) (hR : rm.frames + 1 ≤ R.frames ∧ 8 + (maxL + 11) + rm.locals ≤ R.locals) :
    vx_CVW R s args own C index y bytes maxL ret hh ws rm mc ms n := by
  obtain ⟨hC, hd⟩ := hd
  subst hC
  have ok : ∀ w ∈ wsV own index y.cls y ws, w.before args s = true := fun w h => ht w (hT w h).1
  have hG : GoodIn Ts ws := fun w h => hT w (by unfold wsV; exact List.mem_append_right _ h)
  have hc : Cond.codeWith y bytes maxL ret hh ∈ ws := by rw [hw]; exact List.mem_cons_self
  refine ⟨⟨hrc, hrs, hR.1, hR.2, pay_in ht hG, hc⟩, ht _ (hG _ hc).1, ok _ (by simp [wsV]), ⟨hd.1, hd.2.1⟩, fun sig h => ?_, ok _ (by simp [wsV]), ok _ (by simp [wsV]), ok _ (by simp [wsV])⟩
  have h2 := hd.2.2
  rw [h] at h2
  exact (Option.some.inj h2).symm
theorem vx_runVW {y : MethodName} {bytes cc : ByteArray} {maxL nL mc ms n index : Nat} {ret : Option FieldType} {hh : List (Nat × Nat × Nat × Nat)} {ws : List Cond} {rm : Room} {Pc : Array Value → State → Prop} {Qc : Array Value → State → Outcome → State → Prop} {free : Addr → Prop} {Ts : List Cond} {own C : String} {b : Addr} {As rest : List Value} {g : JFrame}
    (S : CallFix p m c cc nL s args Ts own) (hM : Met l y ws rm Pc Qc mc ms free) (cw : vx_CVW R s args own C index y bytes maxL ret hh ws rm mc ms n) (hp : PreV s H C b Pc As)
    (hg : g.method = m) (hn : As.length = n) (hsize : g.locals.size = nL) (hstack : g.stack = As.reverse ++ .ref b :: rest) (hW : 2 * g.monitorRoom + (rest.map fun v => v.category).sum ≤ 8) (hdg : decode cc g.pc = .ok (.invokevirtual index, 3)) (hf : cells + mc ≤ R.cells ∧ slots + ms ≤ R.slots) :
    va_Run p l e R s m args below meth c H locs cells slots mc ms g rest (Qc (Value.ref b :: As).toArray) free := by
  obtain ⟨⟨hrc, hrs, hfr, hlo, hws, hcw⟩, hcode, hini, hy, hlen, hl, hin, hse⟩ := cw
  have hK : Back l R p e below s args y 3 8 (PreOf R mc ms Pc) (PostOf Qc mc ms free) := va_backW (hh := hh) (bytes := bytes) (maxL := maxL) (ret := ret) hM hp.1 hrc hrs hfr hlo hws hcw (fun a' U hW => word_at hW (Or.inl (by first | rfl | simp [Cond.onTables, Cond.keeps, Cond.steady])) hini)
  obtain ⟨hx, hb, hml, ho, -⟩ := S
  obtain ⟨-, ⟨cellB, hcB, hoB, hclB⟩, hPc⟩ := hp
  intro T hT X
  obtain ⟨v, vm₁, ⟨U', l2, c2, s2⟩, hW₁, X', ⟨g', mk, t, L, e1, e2, hq, h1, hL, h2, h3⟩, st⟩ := vx_callVW X hx (C := C) (hh := hh) (bytes := bytes) (maxL := maxL) (ret := ret) ho hl hin hse hcode hy hK (by rw [hT]; exact hcB) hoB hclB hg (hsize.trans hml.symm) (argsL := As) (rest := rest) (fun sig h => hn.trans (hlen sig h)) hstack hW (by rw [hb]; exact hdg)
    (fun vm₁ hW₁ => ⟨hf.1, hf.2, hPc (T.setVm vm₁) hT hW₁⟩)
  dsimp only [Pt.U, Pt.locs, Pt.cells, Pt.slots] at X' e1 e2 h1 h2 h3 st
  subst h1; subst h2; subst h3
  exact ⟨v, (T.setVm vm₁).calling g' mk (Value.ref b :: As).toArray, t, U', L, hT, X', hL, e1, e2, hq, st⟩
section
variable {y : MethodName} {bytes cc : ByteArray} {maxL nL mc ms n index : Nat} {ret : Option FieldType} {ws : List Cond} {rm : Room} {Pc : Array Value → State → Prop} {Qc : Array Value → State → Outcome → State → Prop} {XC : String → State → State → Prop} {free : Addr → Prop} {Ts : List Cond} {own C : String} {b : Addr} {As rest : List Value} {g : JFrame}
theorem vx_runVX {hh : List (Nat × Nat × Nat × Nat)} (S : CallFix p m c cc nL s args Ts own) (hM : vx_Met l y ws rm Pc Qc XC mc ms free) (cw : vx_CVW R s args own C index y bytes maxL ret hh ws rm mc ms n) (hp : PreV s H C b Pc As)
    (hg : g.method = m) (hn : As.length = n) (hsize : g.locals.size = nL) (hstack : g.stack = As.reverse ++ .ref b :: rest) (hW : 2 * g.monitorRoom + (rest.map fun v => v.category).sum ≤ 8) (hdg : decode cc g.pc = .ok (.invokevirtual index, 3)) (hf : cells + mc ≤ R.cells ∧ slots + ms ≤ R.slots) :
    vx_Run p l e R s m args below meth c H locs cells slots mc ms g rest (Qc (Value.ref b :: As).toArray) XC free := by
  obtain ⟨⟨hrc, hrs, hfr, hlo, hws, hcw⟩, hcode, hini, hy, hlen, hl, hin, hse⟩ := cw
  have hK : vx_Back l R p e below s args y 3 8 (PreOf R mc ms Pc) (PostOf Qc mc ms free) (vx_Post XC mc ms free) := vx_backW (hh := hh) (bytes := bytes) (maxL := maxL) (ret := ret) hM hp.1 hrc hrs hfr hlo hws hcw (fun a' U hW => word_at hW (Or.inl (by first | rfl | simp [Cond.onTables, Cond.keeps, Cond.steady])) hini)
  obtain ⟨hx, hb, hml, ho, -⟩ := S
  obtain ⟨-, ⟨cellB, hcB, hoB, hclB⟩, hPc⟩ := hp
  intro T hT X
  rcases vx_callVX X hx (C := C) (hh := hh) (bytes := bytes) (maxL := maxL) (ret := ret) ho hl hin hse hcode hy hK (by rw [hT]; exact hcB) hoB hclB hg (hsize.trans hml.symm) (argsL := As) (rest := rest) (fun sig h => hn.trans (hlen sig h)) hstack hW (by rw [hb]; exact hdg)
    (fun vm₁ hW₁ => ⟨hf.1, hf.2, hPc (T.setVm vm₁) hT hW₁⟩) with ⟨v, vm₁, ⟨U', l2, c2, s2⟩, hW₁, X', ⟨g', mk, t, L, e1, e2, hq, h1, hL, h2, h3⟩, st⟩ | ⟨q, vm₁, ⟨U', l2, c2, s2⟩, hW₁, X', ⟨g', mk, t, L, E, ce, e1, e2, hq, hce, hcv, hcl, h1, hL, h2, h3⟩, st⟩
  · dsimp only [Pt.U, Pt.locs, Pt.cells, Pt.slots] at X' e1 e2 h1 h2 h3 st
    subst h1; subst h2; subst h3
    exact Or.inl ⟨v, (T.setVm vm₁).calling g' mk (Value.ref b :: As).toArray, t, U', L, hT, X', hL, e1, e2, hq, st⟩
  · dsimp only [Pt.U, Pt.locs, Pt.cells, Pt.slots] at X' e1 e2 h1 h2 h3 st hcl
    subst h1; subst h2; subst h3
    exact Or.inr ⟨q, (T.setVm vm₁).calling g' mk (Value.ref b :: As).toArray, t, U', L, E, ce, hT, X', hL, e1, e2, hq, hce, hcv, vx_cls hW₁ hcl, st⟩
theorem vx_runSX {hh : List (Nat × Nat × Nat × Nat)} (S : CallFix p m c cc nL s args Ts own) (hM : vx_Met l y ws rm Pc Qc XC mc ms free) (cw : vx_CSW R s args own index y bytes maxL ret hh ws rm mc ms n) (hp : PreS s H Pc As)
    (hg : g.method = m) (hn : As.length = n) (hsize : g.locals.size = nL) (hstack : g.stack = As.reverse ++ rest) (hW : 2 * g.monitorRoom + (rest.map fun v => v.category).sum ≤ 8) (hdg : decode cc g.pc = .ok (.invokestatic index, 3)) (hf : cells + mc ≤ R.cells ∧ slots + ms ≤ R.slots) :
    vx_Run p l e R s m args below meth c H locs cells slots mc ms g rest (Qc As.toArray) XC free := by
  obtain ⟨⟨hrc, hrs, hfr, hlo, hws, hcw⟩, hcode, hini, hy, hlen, hl, hstt⟩ := cw
  have hK : vx_Back l R p e below s args y 3 8 (PreOf R mc ms Pc) (PostOf Qc mc ms free) (vx_Post XC mc ms free) := vx_backW (hh := hh) (bytes := bytes) (maxL := maxL) (ret := ret) hM hp.1 hrc hrs hfr hlo hws hcw (fun a' U hW => word_at hW (Or.inl (by first | rfl | simp [Cond.onTables, Cond.keeps, Cond.steady])) hini)
  obtain ⟨hx, hb, hml, ho, -⟩ := S
  intro T hT X
  rcases vx_callSX X hx (hh := hh) (bytes := bytes) (maxL := maxL) (ret := ret) ho hl hstt hini hcode hy hK hg (hsize.trans hml.symm) (argsL := As) (rest := rest) (fun sig h => hn.trans (hlen sig h)) hstack hW (by rw [hb]; exact hdg)
    (fun vm₁ hW₁ => ⟨hf.1, hf.2, hp.2 (T.setVm vm₁) hT hW₁⟩) with ⟨v, vm₁, ⟨U', l2, c2, s2⟩, hW₁, X', ⟨g', mk, t, L, e1, e2, hq, h1, hL, h2, h3⟩, st⟩ | ⟨q, vm₁, ⟨U', l2, c2, s2⟩, hW₁, X', ⟨g', mk, t, L, E, ce, e1, e2, hq, hce, hcv, hcl, h1, hL, h2, h3⟩, st⟩
  · dsimp only [Pt.U, Pt.locs, Pt.cells, Pt.slots] at X' e1 e2 h1 h2 h3 st
    subst h1; subst h2; subst h3
    exact Or.inl ⟨v, (T.setVm vm₁).calling g' mk As.toArray, t, U', L, hT, X', hL, e1, e2, hq, st⟩
  · dsimp only [Pt.U, Pt.locs, Pt.cells, Pt.slots] at X' e1 e2 h1 h2 h3 st hcl
    subst h1; subst h2; subst h3
    exact Or.inr ⟨q, (T.setVm vm₁).calling g' mk As.toArray, t, U', L, E, ce, hT, X', hL, e1, e2, hq, hce, hcv, vx_cls hW₁ hcl, st⟩
end
end VXH
theorem vx_ofWH {l : Launch} {y : MethodName} {ws ws' : List Cond} {rm : Room} {Pc : Array Value → State → Prop} {Qc : Array Value → State → Outcome → State → Prop} {XC : String → State → State → Prop} {mc ms : Nat} {free : Addr → Prop} {cc : ByteArray} {maxL : Nat} {ret : Option FieldType} {hh : List (Nat × Nat × Nat × Nat)}
    (hy : plainName y.cls = true) (hw : ws = Cond.codeWith y cc maxL ret hh :: ws')
    (body : ∀ p e s m args below meth c s₁, BodyLoose p l y (headSpec ws rm) cc maxL ret e s m args below meth c s₁ → c.maxLocals = maxL → Pc args s →
      W p l e (headSpec ws rm).room s m args below meth c s.heap [] 0 0 (vx_MQ below Qc XC args s mc ms free) (entryFrame m args maxL)) : vx_Met l y ws rm Pc Qc XC mc ms free := by
  refine MetFree.of_bodyS (code := cc) (maxLocals := maxL) (ret := ret) hy ?_ ?_
  · intro args s m h hn
    obtain ⟨m9, meth, c, hn9, h1, h2, h3, h4, -, h5, h6, -⟩ := Cond.codeWith_spec (atoms_spec (ws := ws) h _ (by rw [hw]; exact List.mem_cons_self))
    cases hn.symm.trans hn9
    exact ⟨meth, c, h1, h2, h3, h4, h5, h6⟩
  · intro p e s m args below meth c s₁ B hml hP _
    have hh0 : s₁.heap = s.heap := by rw [B.state]; rfl
    obtain ⟨t, a1, o, b1, b2, b3⟩ := body p e s m args below meth c s₁ B hml hP s₁ hh0 (Stand.of_body B)
    exact ⟨t, o, a1, b1, b2, b3⟩
/-! ===== END ===== -/

/-! ===== BEGIN printed: names, fields, word lists, decode rows ===== -/
def RX0 : String := "GreyReel$Coder"
def TX0 : u_T := fun k => match k with
  | 0 => ("GreyReel$Coder", "studio", "LGreyReel$Studio;", true)
  | 1 => ("GreyReel$Coder", "bestKind", "I", false)
  | 2 => ("GreyReel$Coder", "bestX", "I", false)
  | 3 => ("GreyReel$Coder", "bestY", "I", false)
  | _ => ("GreyReel$Coder", "bestPrice", "I", false)
def tyX0 : Nat → FieldType := fun k => match k with
  | 0 => .object "GreyReel$Studio"
  | 1 => .int
  | 2 => .int
  | 3 => .int
  | _ => .int
abbrev wsX00 : List Cond := u_ws RX0 TX0 5
theorem nmX0 : ∀ a, a < 5 → ∀ b, b < 5 → a ≠ b → (TX0 a).2.1 ≠ (TX0 b).2.1 := by decide +kernel
theorem tyX0_ok : ∀ k, k < 5 → parseFieldDescriptor (TX0 k).2.2.1 = some (tyX0 k) := by decide +kernel
abbrev cX0_init : ByteArray := prog_2_method_1_code
def yX0_init : MethodName := ⟨RX0, "<init>", "()V"⟩
abbrev cX0_codeAll : ByteArray := prog_2_method_2_code
def yX0_codeAll : MethodName := ⟨RX0, "codeAll", "(LGreyReel$Picture;[I)V"⟩
abbrev cX0_codeBlock : ByteArray := prog_2_method_3_code
def yX0_codeBlock : MethodName := ⟨RX0, "codeBlock", "(LGreyReel$Picture;[II)V"⟩
abbrev cX0_seekVector : ByteArray := prog_2_method_4_code
def yX0_seekVector : MethodName := ⟨RX0, "seekVector", "(LGreyReel$Picture;[II)V"⟩
abbrev cX0_tryVector : ByteArray := prog_2_method_5_code
def yX0_tryVector : MethodName := ⟨RX0, "tryVector", "(LGreyReel$Picture;[IIII)V"⟩
abbrev cX0_tryKind : ByteArray := prog_2_method_6_code
def yX0_tryKind : MethodName := ⟨RX0, "tryKind", "(I[III)V"⟩
abbrev cX0_take : ByteArray := prog_2_method_7_code
def yX0_take : MethodName := ⟨RX0, "take", "(IIII)V"⟩
def RX1 : String := "GreyReel$PacketWriter"
def TX1 : u_T := fun k => match k with
  | 0 => ("GreyReel$PacketWriter", "row", "[I", true)
  | 1 => ("GreyReel$PacketWriter", "kindRow", "[I", true)
  | 2 => ("GreyReel$PacketWriter", "mean", "[I", true)
  | _ => ("GreyReel$PacketWriter", "bitsWritten", "I", false)
def tyX1 : Nat → FieldType := fun k => match k with
  | 0 => .array .int
  | 1 => .array .int
  | 2 => .array .int
  | _ => .int
abbrev wsX10 : List Cond := u_ws RX1 TX1 4
theorem nmX1 : ∀ a, a < 4 → ∀ b, b < 4 → a ≠ b → (TX1 a).2.1 ≠ (TX1 b).2.1 := by decide +kernel
theorem tyX1_ok : ∀ k, k < 4 → parseFieldDescriptor (TX1 k).2.2.1 = some (tyX1 k) := by decide +kernel
abbrev cX1_init : ByteArray := prog_3_method_1_code
def yX1_init : MethodName := ⟨RX1, "<init>", "()V"⟩
abbrev cX1_copyOfBytes : ByteArray := prog_3_method_2_code
def yX1_copyOfBytes : MethodName := ⟨RX1, "copyOfBytes", "(I)[I"⟩
abbrev cX1_write : ByteArray := prog_3_method_3_code
def yX1_write : MethodName := ⟨RX1, "write", "(LGreyReel$Picture;)V"⟩
abbrev cX1_startBand : ByteArray := prog_3_method_4_code
def yX1_startBand : MethodName := ⟨RX1, "startBand", "(LGreyReel$Picture;)V"⟩
abbrev cX1_writeBlock : ByteArray := prog_3_method_5_code
def yX1_writeBlock : MethodName := ⟨RX1, "writeBlock", "(LGreyReel$Picture;I)V"⟩
abbrev cX1_writeKind : ByteArray := prog_3_method_6_code
def yX1_writeKind : MethodName := ⟨RX1, "writeKind", "(I)V"⟩
abbrev cX1_writeSigned : ByteArray := prog_3_method_7_code
def yX1_writeSigned : MethodName := ⟨RX1, "writeSigned", "(I)V"⟩
abbrev cX1_writeLevels : ByteArray := prog_3_method_8_code
def yX1_writeLevels : MethodName := ⟨RX1, "writeLevels", "([II)V"⟩
abbrev cX1_writeNumber : ByteArray := prog_3_method_9_code
def yX1_writeNumber : MethodName := ⟨RX1, "writeNumber", "(II)V"⟩
abbrev cX1_putOnes : ByteArray := prog_3_method_10_code
def yX1_putOnes : MethodName := ⟨RX1, "putOnes", "(I)V"⟩
abbrev cX1_put : ByteArray := prog_3_method_11_code
def yX1_put : MethodName := ⟨RX1, "put", "(II)V"⟩
def RX2 : String := "GreyReel$Picture"
def TX2 : u_T := fun k => match k with
  | 0 => ("GreyReel$Picture", "kind", "[I", true)
  | 1 => ("GreyReel$Picture", "vx", "[I", true)
  | 2 => ("GreyReel$Picture", "vy", "[I", true)
  | 3 => ("GreyReel$Picture", "price", "[I", true)
  | 4 => ("GreyReel$Picture", "level", "[I", true)
  | 5 => ("GreyReel$Picture", "result", "[I", true)
  | 6 => ("GreyReel$Picture", "usedBits", "[I", true)
  | 7 => ("GreyReel$Picture", "got", "[Z", true)
  | 8 => ("GreyReel$Picture", "row", "[I", false)
  | 9 => ("GreyReel$Picture", "number", "I", false)
  | 10 => ("GreyReel$Picture", "q", "I", false)
  | 11 => ("GreyReel$Picture", "error", "I", false)
  | 12 => ("GreyReel$Picture", "isKeyPicture", "Z", false)
  | _ => ("GreyReel$Picture", "isSmoothed", "Z", false)
def tyX2 : Nat → FieldType := fun k => match k with
  | 0 => .array .int
  | 1 => .array .int
  | 2 => .array .int
  | 3 => .array .int
  | 4 => .array .int
  | 5 => .array .int
  | 6 => .array .int
  | 7 => .array .boolean
  | 8 => .array .int
  | 9 => .int
  | 10 => .int
  | 11 => .int
  | 12 => .boolean
  | _ => .boolean
abbrev wsX20 : List Cond := u_ws RX2 TX2 14
theorem nmX2 : ∀ a, a < 14 → ∀ b, b < 14 → a ≠ b → (TX2 a).2.1 ≠ (TX2 b).2.1 := by decide +kernel
theorem tyX2_ok : ∀ k, k < 14 → parseFieldDescriptor (TX2 k).2.2.1 = some (tyX2 k) := by decide +kernel
abbrev cX2_init : ByteArray := prog_4_method_1_code
def yX2_init : MethodName := ⟨RX2, "<init>", "()V"⟩
abbrev cX2_bytesIn : ByteArray := prog_4_method_2_code
def yX2_bytesIn : MethodName := ⟨RX2, "bytesIn", "(I)I"⟩
abbrev cX2_firstByteOf : ByteArray := prog_4_method_3_code
def yX2_firstByteOf : MethodName := ⟨RX2, "firstByteOf", "(I)I"⟩
abbrev cX2_bytesInAll : ByteArray := prog_4_method_4_code
def yX2_bytesInAll : MethodName := ⟨RX2, "bytesInAll", "()I"⟩
abbrev cX2_levelsNotZero : ByteArray := prog_4_method_5_code
def yX2_levelsNotZero : MethodName := ⟨RX2, "levelsNotZero", "(I)I"⟩
abbrev cX2_blocksOf : ByteArray := prog_4_method_6_code
def yX2_blocksOf : MethodName := ⟨RX2, "blocksOf", "(I)I"⟩
abbrev cX2_freshBlocks : ByteArray := prog_4_method_7_code
def yX2_freshBlocks : MethodName := ⟨RX2, "freshBlocks", "()I"⟩
abbrev cX2_bandsGot : ByteArray := prog_4_method_8_code
def yX2_bandsGot : MethodName := ⟨RX2, "bandsGot", "()I"⟩
abbrev cX2_expectedX : ByteArray := prog_4_method_9_code
def yX2_expectedX : MethodName := ⟨RX2, "expectedX", "(I)I"⟩
abbrev cX2_expectedY : ByteArray := prog_4_method_10_code
def yX2_expectedY : MethodName := ⟨RX2, "expectedY", "(I)I"⟩
abbrev cX2_digestOn : ByteArray := prog_4_method_11_code
def yX2_digestOn : MethodName := ⟨RX2, "digestOn", "(J)J"⟩
abbrev cX2_digestPacket : ByteArray := prog_4_method_12_code
def yX2_digestPacket : MethodName := ⟨RX2, "digestPacket", "(JI)J"⟩
def RX3 : String := "GreyReel$Studio"
def TX3 : u_T := fun k => match k with
  | 0 => ("GreyReel$Studio", "ahead", "[I", true)
  | 1 => ("GreyReel$Studio", "quarterNumbers", "[I", true)
  | 2 => ("GreyReel$Studio", "made", "[I", true)
  | _ => ("GreyReel$Studio", "foretold", "[I", true)
def tyX3 : Nat → FieldType := fun k => match k with
  | 0 => .array .int
  | 1 => .array .int
  | 2 => .array .int
  | _ => .array .int
abbrev wsX30 : List Cond := u_ws RX3 TX3 4
theorem nmX3 : ∀ a, a < 4 → ∀ b, b < 4 → a ≠ b → (TX3 a).2.1 ≠ (TX3 b).2.1 := by decide +kernel
theorem tyX3_ok : ∀ k, k < 4 → parseFieldDescriptor (TX3 k).2.2.1 = some (tyX3 k) := by decide +kernel
abbrev cX3_init : ByteArray := prog_5_method_1_code
def yX3_init : MethodName := ⟨RX3, "<init>", "()V"⟩
abbrev cX3_lookAhead : ByteArray := prog_5_method_2_code
def yX3_lookAhead : MethodName := ⟨RX3, "lookAhead", "([I)V"⟩
abbrev cX3_foretell : ByteArray := prog_5_method_3_code
def yX3_foretell : MethodName := ⟨RX3, "foretell", "(IIII)V"⟩
abbrev cX3_foretellMoved : ByteArray := prog_5_method_4_code
def yX3_foretellMoved : MethodName := ⟨RX3, "foretellMoved", "(III)V"⟩
abbrev cX3_differenceMoved : ByteArray := prog_5_method_5_code
def yX3_differenceMoved : MethodName := ⟨RX3, "differenceMoved", "([IIIII)I"⟩
abbrev cX3_startAhead : ByteArray := prog_5_method_6_code
def yX3_startAhead : MethodName := ⟨RX3, "startAhead", "(III)I"⟩
abbrev cX3_between : ByteArray := prog_5_method_7_code
def yX3_between : MethodName := ⟨RX3, "between", "(III)I"⟩
abbrev cX3_foretellFlat : ByteArray := prog_5_method_8_code
def yX3_foretellFlat : MethodName := ⟨RX3, "foretellFlat", "(I)V"⟩
abbrev cX3_foretellLeft : ByteArray := prog_5_method_9_code
def yX3_foretellLeft : MethodName := ⟨RX3, "foretellLeft", "(I)V"⟩
abbrev cX3_foretellTrend : ByteArray := prog_5_method_10_code
def yX3_foretellTrend : MethodName := ⟨RX3, "foretellTrend", "(I)V"⟩
abbrev cX3_difference : ByteArray := prog_5_method_11_code
def yX3_difference : MethodName := ⟨RX3, "difference", "([II)I"⟩
abbrev cX3_measure : ByteArray := prog_5_method_12_code
def yX3_measure : MethodName := ⟨RX3, "measure", "([III[I)Z"⟩
abbrev cX3_levelOf : ByteArray := prog_5_method_13_code
def yX3_levelOf : MethodName := ⟨RX3, "levelOf", "(II)I"⟩
abbrev cX3_makeBlock : ByteArray := prog_5_method_14_code
def yX3_makeBlock : MethodName := ⟨RX3, "makeBlock", "(II[I)V"⟩
abbrev cX3_makeForetold : ByteArray := prog_5_method_15_code
def yX3_makeForetold : MethodName := ⟨RX3, "makeForetold", "(I)V"⟩
abbrev cX3_placeInBlock : ByteArray := prog_5_method_16_code
def yX3_placeInBlock : MethodName := ⟨RX3, "placeInBlock", "(II)I"⟩
abbrev cX3_pointOf : ByteArray := prog_5_method_17_code
def yX3_pointOf : MethodName := ⟨RX3, "pointOf", "(II)I"⟩
abbrev cX3_turnQuarter : ByteArray := prog_5_method_18_code
def yX3_turnQuarter : MethodName := ⟨RX3, "turnQuarter", "()V"⟩
abbrev cX3_turnFour : ByteArray := prog_5_method_19_code
def yX3_turnFour : MethodName := ⟨RX3, "turnFour", "(II)V"⟩
abbrev cX3_smooth : ByteArray := prog_5_method_20_code
def yX3_smooth : MethodName := ⟨RX3, "smooth", "(I)V"⟩
abbrev cX3_smoothAcross : ByteArray := prog_5_method_21_code
def yX3_smoothAcross : MethodName := ⟨RX3, "smoothAcross", "(III)V"⟩
def RX4 : String := "GreyReel$Viewer"
def TX4 : u_T := fun k => match k with
  | 0 => ("GreyReel$Viewer", "studio", "LGreyReel$Studio;", true)
  | 1 => ("GreyReel$Viewer", "screen", "[I", true)
  | _ => ("GreyReel$Viewer", "shownPictures", "I", false)
def tyX4 : Nat → FieldType := fun k => match k with
  | 0 => .object "GreyReel$Studio"
  | 1 => .array .int
  | _ => .int
abbrev wsX40 : List Cond := u_ws RX4 TX4 3
theorem nmX4 : ∀ a, a < 3 → ∀ b, b < 3 → a ≠ b → (TX4 a).2.1 ≠ (TX4 b).2.1 := by decide +kernel
theorem tyX4_ok : ∀ k, k < 3 → parseFieldDescriptor (TX4 k).2.2.1 = some (tyX4 k) := by decide +kernel
abbrev cX4_init : ByteArray := prog_6_method_1_code
def yX4_init : MethodName := ⟨RX4, "<init>", "()V"⟩
abbrev cX4_make : ByteArray := prog_6_method_2_code
def yX4_make : MethodName := ⟨RX4, "make", "(LGreyReel$Picture;)V"⟩
abbrev cX4_conceal : ByteArray := prog_6_method_3_code
def yX4_conceal : MethodName := ⟨RX4, "conceal", "(LGreyReel$Picture;I)V"⟩
abbrev cX4_takeMade : ByteArray := prog_6_method_4_code
def yX4_takeMade : MethodName := ⟨RX4, "takeMade", "()V"⟩
def RX5 : String := "GreyReel"
def TX5 : u_T := fun k => match k with
  | 0 => ("GreyReel", "canvas", "[I", true)
  | 1 => ("GreyReel", "reel", "[LGreyReel$Picture;", true)
  | 2 => ("GreyReel", "coder", "LGreyReel$Coder;", true)
  | 3 => ("GreyReel", "writer", "LGreyReel$PacketWriter;", true)
  | 4 => ("GreyReel", "viewer", "LGreyReel$Viewer;", true)
  | 5 => ("GreyReel", "canvasBefore", "[I", true)
  | 6 => ("GreyReel", "draft", "LGreyReel$Picture;", false)
  | 7 => ("GreyReel", "coded", "I", false)
  | 8 => ("GreyReel", "deltasBehindKey", "I", false)
  | 9 => ("GreyReel", "nextStep", "I", false)
  | 10 => ("GreyReel", "bytesWanted", "I", false)
  | 11 => ("GreyReel", "keyInterval", "I", false)
  | 12 => ("GreyReel", "isSmoothing", "Z", false)
  | _ => ("GreyReel", "isKeyAsked", "Z", false)
def tyX5 : Nat → FieldType := fun k => match k with
  | 0 => .array .int
  | 1 => .array (.object "GreyReel$Picture")
  | 2 => .object "GreyReel$Coder"
  | 3 => .object "GreyReel$PacketWriter"
  | 4 => .object "GreyReel$Viewer"
  | 5 => .array .int
  | 6 => .object "GreyReel$Picture"
  | 7 => .int
  | 8 => .int
  | 9 => .int
  | 10 => .int
  | 11 => .int
  | 12 => .boolean
  | _ => .boolean
abbrev wsX50 : List Cond := u_ws RX5 TX5 14
theorem nmX5 : ∀ a, a < 14 → ∀ b, b < 14 → a ≠ b → (TX5 a).2.1 ≠ (TX5 b).2.1 := by decide +kernel
theorem tyX5_ok : ∀ k, k < 14 → parseFieldDescriptor (TX5 k).2.2.1 = some (tyX5 k) := by decide +kernel
abbrev cX5_init : ByteArray := prog_1_method_1_code
def yX5_init : MethodName := ⟨RX5, "<init>", "()V"⟩
abbrev cX5_fill : ByteArray := prog_1_method_2_code
def yX5_fill : MethodName := ⟨RX5, "fill", "(I)I"⟩
abbrev cX5_box : ByteArray := prog_1_method_3_code
def yX5_box : MethodName := ⟨RX5, "box", "(IIIII)I"⟩
abbrev cX5_ramp : ByteArray := prog_1_method_4_code
def yX5_ramp : MethodName := ⟨RX5, "ramp", "(III)I"⟩
abbrev cX5_noise : ByteArray := prog_1_method_5_code
def yX5_noise : MethodName := ⟨RX5, "noise", "(II)I"⟩
abbrev cX5_shift : ByteArray := prog_1_method_6_code
def yX5_shift : MethodName := ⟨RX5, "shift", "(II)I"⟩
abbrev cX5_setStep : ByteArray := prog_1_method_8_code
def yX5_setStep : MethodName := ⟨RX5, "setStep", "(I)I"⟩
abbrev cX5_setTarget : ByteArray := prog_1_method_9_code
def yX5_setTarget : MethodName := ⟨RX5, "setTarget", "(I)I"⟩
abbrev cX5_setSmoothing : ByteArray := prog_1_method_11_code
def yX5_setSmoothing : MethodName := ⟨RX5, "setSmoothing", "(Z)Z"⟩
abbrev cX5_askKey : ByteArray := prog_1_method_12_code
def yX5_askKey : MethodName := ⟨RX5, "askKey", "()Z"⟩
abbrev cX5_code : ByteArray := prog_1_method_13_code
def yX5_code : MethodName := ⟨RX5, "code", "()I"⟩
abbrev cX5_pictures : ByteArray := prog_1_method_14_code
def yX5_pictures : MethodName := ⟨RX5, "pictures", "()I"⟩
abbrev cX5_step : ByteArray := prog_1_method_15_code
def yX5_step : MethodName := ⟨RX5, "step", "()I"⟩
abbrev cX5_isKey : ByteArray := prog_1_method_16_code
def yX5_isKey : MethodName := ⟨RX5, "isKey", "(I)Z"⟩
abbrev cX5_kindOf : ByteArray := prog_1_method_18_code
def yX5_kindOf : MethodName := ⟨RX5, "kindOf", "(II)I"⟩
abbrev cX5_vectorX : ByteArray := prog_1_method_19_code
def yX5_vectorX : MethodName := ⟨RX5, "vectorX", "(II)I"⟩
abbrev cX5_vectorY : ByteArray := prog_1_method_20_code
def yX5_vectorY : MethodName := ⟨RX5, "vectorY", "(II)I"⟩
abbrev cX5_levels : ByteArray := prog_1_method_21_code
def yX5_levels : MethodName := ⟨RX5, "levels", "(II)I"⟩
abbrev cX5_resultAt : ByteArray := prog_1_method_23_code
def yX5_resultAt : MethodName := ⟨RX5, "resultAt", "(III)I"⟩
abbrev cX5_errorOf : ByteArray := prog_1_method_24_code
def yX5_errorOf : MethodName := ⟨RX5, "errorOf", "(I)I"⟩
abbrev cX5_bytes : ByteArray := prog_1_method_25_code
def yX5_bytes : MethodName := ⟨RX5, "bytes", "(II)I"⟩
abbrev cX5_bits : ByteArray := prog_1_method_26_code
def yX5_bits : MethodName := ⟨RX5, "bits", "(II)I"⟩
abbrev cX5_byteAt : ByteArray := prog_1_method_27_code
def yX5_byteAt : MethodName := ⟨RX5, "byteAt", "(III)I"⟩
abbrev cX5_hand : ByteArray := prog_1_method_29_code
def yX5_hand : MethodName := ⟨RX5, "hand", "(II)Z"⟩
abbrev cX5_show : ByteArray := prog_1_method_31_code
def yX5_show : MethodName := ⟨RX5, "show", "()I"⟩
abbrev cX5_shown : ByteArray := prog_1_method_32_code
def yX5_shown : MethodName := ⟨RX5, "shown", "()I"⟩
abbrev cX5_shownAt : ByteArray := prog_1_method_33_code
def yX5_shownAt : MethodName := ⟨RX5, "shownAt", "(II)I"⟩
abbrev cX5_drift : ByteArray := prog_1_method_34_code
def yX5_drift : MethodName := ⟨RX5, "drift", "()I"⟩
abbrev cX5_bytesWith : ByteArray := prog_1_method_36_code
def yX5_bytesWith : MethodName := ⟨RX5, "bytesWith", "(I)I"⟩
abbrev cX5_priceOf : ByteArray := prog_1_method_37_code
def yX5_priceOf : MethodName := ⟨RX5, "priceOf", "(I)I"⟩
abbrev cX5_driftNext : ByteArray := prog_1_method_38_code
def yX5_driftNext : MethodName := ⟨RX5, "driftNext", "()I"⟩
abbrev cX5_bytesOfAll : ByteArray := prog_1_method_39_code
def yX5_bytesOfAll : MethodName := ⟨RX5, "bytesOfAll", "()I"⟩
abbrev cX5_meanError : ByteArray := prog_1_method_40_code
def yX5_meanError : MethodName := ⟨RX5, "meanError", "()D"⟩
abbrev cX5_digest : ByteArray := prog_1_method_41_code
def yX5_digest : MethodName := ⟨RX5, "digest", "()J"⟩
abbrev cX5_isWithin : ByteArray := prog_1_method_42_code
def yX5_isWithin : MethodName := ⟨RX5, "isWithin", "(III)Z"⟩
abbrev cX5_clip : ByteArray := prog_1_method_43_code
def yX5_clip : MethodName := ⟨RX5, "clip", "(I)I"⟩
abbrev cX5_onRow : ByteArray := prog_1_method_44_code
def yX5_onRow : MethodName := ⟨RX5, "onRow", "(II)I"⟩
abbrev cX5_placeIn : ByteArray := prog_1_method_45_code
def yX5_placeIn : MethodName := ⟨RX5, "placeIn", "(II)I"⟩
abbrev cX5_pointAt : ByteArray := prog_1_method_46_code
def yX5_pointAt : MethodName := ⟨RX5, "pointAt", "(II)I"⟩
abbrev cX5_firstPointOf : ByteArray := prog_1_method_47_code
def yX5_firstPointOf : MethodName := ⟨RX5, "firstPointOf", "(I)I"⟩
abbrev cX5_isFirstOfBand : ByteArray := prog_1_method_48_code
def yX5_isFirstOfBand : MethodName := ⟨RX5, "isFirstOfBand", "(I)Z"⟩
abbrev cX5_folded : ByteArray := prog_1_method_49_code
def yX5_folded : MethodName := ⟨RX5, "folded", "(I)I"⟩
abbrev cX5_distance : ByteArray := prog_1_method_50_code
def yX5_distance : MethodName := ⟨RX5, "distance", "([I[I)I"⟩
abbrev cX5_digestPoints : ByteArray := prog_1_method_51_code
def yX5_digestPoints : MethodName := ⟨RX5, "digestPoints", "(J[I)J"⟩
abbrev cX5_pictureOrNull : ByteArray := prog_1_method_52_code
def yX5_pictureOrNull : MethodName := ⟨RX5, "pictureOrNull", "(I)LGreyReel$Picture;"⟩
abbrev cX5_pictureAt : ByteArray := prog_1_method_53_code
def yX5_pictureAt : MethodName := ⟨RX5, "pictureAt", "(I)LGreyReel$Picture;"⟩
abbrev cX5_refuseIfFull : ByteArray := prog_1_method_54_code
def yX5_refuseIfFull : MethodName := ⟨RX5, "refuseIfFull", "()V"⟩
abbrev cX5_isKeyDue : ByteArray := prog_1_method_55_code
def yX5_isKeyDue : MethodName := ⟨RX5, "isKeyDue", "()Z"⟩
abbrev cX5_draftNext : ByteArray := prog_1_method_56_code
def yX5_draftNext : MethodName := ⟨RX5, "draftNext", "(I)V"⟩
abbrev cX5_steer : ByteArray := prog_1_method_57_code
def yX5_steer : MethodName := ⟨RX5, "steer", "(LGreyReel$Picture;)V"⟩
abbrev cX5_handOver : ByteArray := prog_1_method_58_code
def yX5_handOver : MethodName := ⟨RX5, "handOver", "(LGreyReel$Picture;I)Z"⟩
def RX6 : String := "GreyReelModel"
def TX6 : u_T := fun k => match k with
  | _ => ("", "", "", false)
def tyX6 : Nat → FieldType := fun k => match k with
  | _ => .int
abbrev wsX60 : List Cond := u_ws RX6 TX6 0
theorem nmX6 : ∀ a, a < 0 → ∀ b, b < 0 → a ≠ b → (TX6 a).2.1 ≠ (TX6 b).2.1 := by decide +kernel
theorem tyX6_ok : ∀ k, k < 0 → parseFieldDescriptor (TX6 k).2.2.1 = some (tyX6 k) := by decide +kernel
def RJx145de : String := "java/io/Serializable"
def TJx145de : u_T := fun k => match k with
  | _ => ("", "", "", false)
def tyJx145de : Nat → FieldType := fun k => match k with
  | _ => .int
abbrev wsJx145de0 : List Cond := u_ws RJx145de TJx145de 0
theorem nmJx145de : ∀ a, a < 0 → ∀ b, b < 0 → a ≠ b → (TJx145de a).2.1 ≠ (TJx145de b).2.1 := by decide +kernel
theorem tyJx145de_ok : ∀ k, k < 0 → parseFieldDescriptor (TJx145de k).2.2.1 = some (tyJx145de k) := by decide +kernel
def RJx8e188 : String := "java/lang/Cloneable"
def TJx8e188 : u_T := fun k => match k with
  | _ => ("", "", "", false)
def tyJx8e188 : Nat → FieldType := fun k => match k with
  | _ => .int
abbrev wsJx8e1880 : List Cond := u_ws RJx8e188 TJx8e188 0
theorem nmJx8e188 : ∀ a, a < 0 → ∀ b, b < 0 → a ≠ b → (TJx8e188 a).2.1 ≠ (TJx8e188 b).2.1 := by decide +kernel
theorem tyJx8e188_ok : ∀ k, k < 0 → parseFieldDescriptor (TJx8e188 k).2.2.1 = some (tyJx8e188 k) := by decide +kernel
def RJ9 : String := "java/lang/Math"
def TJ9 : u_T := fun k => match k with
  | _ => ("", "", "", false)
def tyJ9 : Nat → FieldType := fun k => match k with
  | _ => .int
abbrev wsJ90 : List Cond := u_ws RJ9 TJ9 0
theorem nmJ9 : ∀ a, a < 0 → ∀ b, b < 0 → a ≠ b → (TJ9 a).2.1 ≠ (TJ9 b).2.1 := by decide +kernel
theorem tyJ9_ok : ∀ k, k < 0 → parseFieldDescriptor (TJ9 k).2.2.1 = some (tyJ9 k) := by decide +kernel
abbrev cJ9_abs_0f7a4 : ByteArray := prog_14_method_59_code
def yJ9_abs_0f7a4 : MethodName := ⟨RJ9, "abs", "(I)I"⟩
abbrev cJ9_max_7cf53 : ByteArray := prog_14_method_65_code
def yJ9_max_7cf53 : MethodName := ⟨RJ9, "max", "(II)I"⟩
abbrev cJ9_min_7cf53 : ByteArray := prog_14_method_69_code
def yJ9_min_7cf53 : MethodName := ⟨RJ9, "min", "(II)I"⟩
def RJ0 : String := "java/lang/String"
def TJ0 : u_T := fun k => match k with
  | _ => ("", "", "", false)
def tyJ0 : Nat → FieldType := fun k => match k with
  | _ => .int
abbrev wsJ00 : List Cond := u_ws RJ0 TJ0 0
theorem nmJ0 : ∀ a, a < 0 → ∀ b, b < 0 → a ≠ b → (TJ0 a).2.1 ≠ (TJ0 b).2.1 := by decide +kernel
theorem tyJ0_ok : ∀ k, k < 0 → parseFieldDescriptor (TJ0 k).2.2.1 = some (tyJ0 k) := by decide +kernel
def RJ10 : String := "java/lang/System"
def TJ10 : u_T := fun k => match k with
  | _ => ("", "", "", false)
def tyJ10 : Nat → FieldType := fun k => match k with
  | _ => .int
abbrev wsJ100 : List Cond := u_ws RJ10 TJ10 0
theorem nmJ10 : ∀ a, a < 0 → ∀ b, b < 0 → a ≠ b → (TJ10 a).2.1 ≠ (TJ10 b).2.1 := by decide +kernel
theorem tyJ10_ok : ∀ k, k < 0 → parseFieldDescriptor (TJ10 k).2.2.1 = some (tyJ10 k) := by decide +kernel
def RJ7 : String := "java/util/Arrays"
def TJ7 : u_T := fun k => match k with
  | _ => ("", "", "", false)
def tyJ7 : Nat → FieldType := fun k => match k with
  | _ => .int
abbrev wsJ70 : List Cond := u_ws RJ7 TJ7 0
theorem nmJ7 : ∀ a, a < 0 → ∀ b, b < 0 → a ≠ b → (TJ7 a).2.1 ≠ (TJ7 b).2.1 := by decide +kernel
theorem tyJ7_ok : ∀ k, k < 0 → parseFieldDescriptor (TJ7 k).2.2.1 = some (tyJ7 k) := by decide +kernel
abbrev cJ7_fill_53178 : ByteArray := prog_19_method_103_code
def yJ7_fill_53178 : MethodName := ⟨RJ7, "fill", "([II)V"⟩
abbrev cJ7_copyOf_59c91 : ByteArray := prog_19_method_123_code
def yJ7_copyOf_59c91 : MethodName := ⟨RJ7, "copyOf", "([II)[I"⟩
def RL : String := "GreyReelLaw"
abbrev cL_below : ByteArray := method_2_code
def yL_below : MethodName := ⟨RL, "below", "(II)I"⟩
abbrev cL_cell : ByteArray := method_3_code
def yL_cell : MethodName := ⟨RL, "cell", "([II)I"⟩
abbrev cL_paint : ByteArray := method_4_code
def yL_paint : MethodName := ⟨RL, "paint", "(LGreyReel;II)V"⟩
abbrev cL_isSound : ByteArray := method_5_code
def yL_isSound : MethodName := ⟨RL, "isSound", "(LGreyReel;I)Z"⟩
abbrev cL_law : ByteArray := code
def yL_law : MethodName := ⟨RL, "law", "([I)Z"⟩
def wsX3_init : List Cond := .code yX3_init cX3_init 1 none :: ([.methodLink RX3 5 objectInit, .instanceMethod objectInit, .code objectInit ⟨#[0xb1]⟩ 1 none, .arrayClass .int, .fieldLink RX3 11 "GreyReel$Studio" "ahead" "[I", .fieldLink RX3 15 "GreyReel$Studio" "quarterNumbers" "[I", .fieldLink RX3 18 "GreyReel$Studio" "made" "[I", .fieldLink RX3 21 "GreyReel$Studio" "foretold" "[I"] ++ wsX30)
def wsX0_init : List Cond := .code yX0_init cX0_init 1 none :: ([.methodLink RX0 3 objectInit, .instanceMethod objectInit, .code objectInit ⟨#[0xb1]⟩ 1 none, .classLink RX0 9 RX3, .instantiable RX3 4, .initialized RX3, .fieldLink RX0 12 "GreyReel$Coder" "studio" "LGreyReel$Studio;", .fieldLink RX0 18 "GreyReel$Coder" "bestKind" "I", .fieldLink RX0 22 "GreyReel$Coder" "bestX" "I", .fieldLink RX0 25 "GreyReel$Coder" "bestY" "I", .fieldLink RX0 28 "GreyReel$Coder" "bestPrice" "I", .instanceMethod yX3_init, .code yX3_init cX3_init 1 none, .methodLink RX3 5 objectInit, .arrayClass .int, .fieldLink RX3 11 "GreyReel$Studio" "ahead" "[I", .fieldLink RX3 15 "GreyReel$Studio" "quarterNumbers" "[I", .fieldLink RX3 18 "GreyReel$Studio" "made" "[I", .fieldLink RX3 21 "GreyReel$Studio" "foretold" "[I"] ++ wsX30 ++ wsX00)
def wsX5_isFirstOfBand : List Cond := .code yX5_isFirstOfBand cX5_isFirstOfBand 1 (some .boolean) :: ([])
def wsX2_expectedX : List Cond := .code yX2_expectedX cX2_expectedX 2 (some .int) :: ([.fieldLink RX2 15 "GreyReel$Picture" "vx" "[I", .static yX5_isFirstOfBand, .initialized RX5, .code yX5_isFirstOfBand cX5_isFirstOfBand 1 (some .boolean)] ++ wsX20)
def wsX2_expectedY : List Cond := .code yX2_expectedY cX2_expectedY 2 (some .int) :: ([.fieldLink RX2 18 "GreyReel$Picture" "vy" "[I", .static yX5_isFirstOfBand, .initialized RX5, .code yX5_isFirstOfBand cX5_isFirstOfBand 1 (some .boolean)] ++ wsX20)
def wsX3_startAhead : List Cond := .code yX3_startAhead cX3_startAhead 8 (some .int) :: ([])
def wsX5_firstPointOf : List Cond := .code yX5_firstPointOf cX5_firstPointOf 1 (some .int) :: ([])
def wsX3_between : List Cond := .code yX3_between cX3_between 6 (some .int) :: ([.fieldLink RX3 11 "GreyReel$Studio" "ahead" "[I"] ++ wsX30)
def wsX3_differenceMoved : List Cond := .code yX3_differenceMoved cX3_differenceMoved 14 (some .int) :: ([.methodLink RX3 53 Lib.Math.abs.name, .static Lib.Math.abs.name, .initialized "java/lang/Math", .code Lib.Math.abs.name Lib.Math.abs.code 1 (some .int), .methodLink RX3 42 yX3_startAhead, .instanceMethod yX3_startAhead, .selects RX3 yX3_startAhead yX3_startAhead, .initialized RX3, .code yX3_startAhead cX3_startAhead 8 (some .int), .static yX5_firstPointOf, .initialized RX5, .code yX5_firstPointOf cX5_firstPointOf 1 (some .int), .methodLink RX3 46 yX3_between, .instanceMethod yX3_between, .selects RX3 yX3_between yX3_between, .code yX3_between cX3_between 6 (some .int), .fieldLink RX3 11 "GreyReel$Studio" "ahead" "[I"] ++ wsX30)
def wsX0_take : List Cond := .code yX0_take cX0_take 5 none :: ([.fieldLink RX0 18 "GreyReel$Coder" "bestKind" "I", .fieldLink RX0 22 "GreyReel$Coder" "bestX" "I", .fieldLink RX0 25 "GreyReel$Coder" "bestY" "I", .fieldLink RX0 28 "GreyReel$Coder" "bestPrice" "I"] ++ wsX00)
def wsX0_tryVector_r1 : List Cond := [Cond.methodLink RX0 115 Lib.Math.abs.name, Cond.static Lib.Math.abs.name, Cond.initialized "java/lang/Math", Cond.code Lib.Math.abs.name Lib.Math.abs.code 1 (some .int), Cond.fieldLink RX0 41 "GreyReel$Picture" "q" "I", Cond.fieldLink RX0 12 "GreyReel$Coder" "studio" "LGreyReel$Studio;", Cond.fieldLink RX0 28 "GreyReel$Coder" "bestPrice" "I", Cond.methodLink RX0 84 yX2_expectedX, Cond.instanceMethod yX2_expectedX, Cond.selects RX2 yX2_expectedX yX2_expectedX, Cond.initialized RX2, Cond.code yX2_expectedX cX2_expectedX 2 (some .int), Cond.fieldLink RX2 15 "GreyReel$Picture" "vx" "[I", Cond.static yX5_isFirstOfBand, Cond.initialized RX5, Cond.code yX5_isFirstOfBand cX5_isFirstOfBand 1 (some .boolean), Cond.methodLink RX0 88 yX2_expectedY, Cond.instanceMethod yX2_expectedY, Cond.selects RX2 yX2_expectedY yX2_expectedY, Cond.code yX2_expectedY cX2_expectedY 2 (some .int), Cond.fieldLink RX2 18 "GreyReel$Picture" "vy" "[I", Cond.methodLink RX0 120 yX3_differenceMoved, Cond.instanceMethod yX3_differenceMoved, Cond.selects RX3 yX3_differenceMoved yX3_differenceMoved]
def wsX0_tryVector_r2 : List Cond := [Cond.initialized RX3, Cond.code yX3_differenceMoved cX3_differenceMoved 14 (some .int), Cond.methodLink RX3 53 Lib.Math.abs.name, Cond.methodLink RX3 42 yX3_startAhead, Cond.instanceMethod yX3_startAhead, Cond.selects RX3 yX3_startAhead yX3_startAhead, Cond.code yX3_startAhead cX3_startAhead 8 (some .int), Cond.static yX5_firstPointOf, Cond.code yX5_firstPointOf cX5_firstPointOf 1 (some .int), Cond.methodLink RX3 46 yX3_between, Cond.instanceMethod yX3_between, Cond.selects RX3 yX3_between yX3_between, Cond.code yX3_between cX3_between 6 (some .int), Cond.fieldLink RX3 11 "GreyReel$Studio" "ahead" "[I", Cond.methodLink RX0 124 yX0_take, Cond.instanceMethod yX0_take, Cond.selects RX0 yX0_take yX0_take, Cond.initialized RX0, Cond.code yX0_take cX0_take 5 none, Cond.fieldLink RX0 18 "GreyReel$Coder" "bestKind" "I", Cond.fieldLink RX0 22 "GreyReel$Coder" "bestX" "I", Cond.fieldLink RX0 25 "GreyReel$Coder" "bestY" "I"]
def wsX0_tryVector : List Cond := .code yX0_tryVector cX0_tryVector 9 none :: ((wsX0_tryVector_r1 ++ wsX0_tryVector_r2) ++ wsX20 ++ wsX00 ++ wsX30)
def wsX5_isWithin : List Cond := .code yX5_isWithin cX5_isWithin 3 (some .boolean) :: ([])
def wsX0_seekVector_r1 : List Cond := [Cond.fieldLink RX0 22 "GreyReel$Coder" "bestX" "I", Cond.fieldLink RX0 25 "GreyReel$Coder" "bestY" "I", Cond.methodLink RX0 107 yX0_tryVector, Cond.instanceMethod yX0_tryVector, Cond.selects RX0 yX0_tryVector yX0_tryVector, Cond.initialized RX0, Cond.code yX0_tryVector cX0_tryVector 9 none, Cond.methodLink RX0 115 Lib.Math.abs.name, Cond.static Lib.Math.abs.name, Cond.initialized "java/lang/Math", Cond.code Lib.Math.abs.name Lib.Math.abs.code 1 (some .int), Cond.fieldLink RX0 41 "GreyReel$Picture" "q" "I", Cond.fieldLink RX0 12 "GreyReel$Coder" "studio" "LGreyReel$Studio;", Cond.fieldLink RX0 28 "GreyReel$Coder" "bestPrice" "I", Cond.methodLink RX0 84 yX2_expectedX, Cond.instanceMethod yX2_expectedX, Cond.selects RX2 yX2_expectedX yX2_expectedX, Cond.initialized RX2, Cond.code yX2_expectedX cX2_expectedX 2 (some .int), Cond.fieldLink RX2 15 "GreyReel$Picture" "vx" "[I", Cond.static yX5_isFirstOfBand, Cond.initialized RX5, Cond.code yX5_isFirstOfBand cX5_isFirstOfBand 1 (some .boolean), Cond.methodLink RX0 88 yX2_expectedY]
def wsX0_seekVector_r2 : List Cond := [Cond.instanceMethod yX2_expectedY, Cond.selects RX2 yX2_expectedY yX2_expectedY, Cond.code yX2_expectedY cX2_expectedY 2 (some .int), Cond.fieldLink RX2 18 "GreyReel$Picture" "vy" "[I", Cond.methodLink RX0 120 yX3_differenceMoved, Cond.instanceMethod yX3_differenceMoved, Cond.selects RX3 yX3_differenceMoved yX3_differenceMoved, Cond.initialized RX3, Cond.code yX3_differenceMoved cX3_differenceMoved 14 (some .int), Cond.methodLink RX3 53 Lib.Math.abs.name, Cond.methodLink RX3 42 yX3_startAhead, Cond.instanceMethod yX3_startAhead, Cond.selects RX3 yX3_startAhead yX3_startAhead, Cond.code yX3_startAhead cX3_startAhead 8 (some .int), Cond.static yX5_firstPointOf, Cond.code yX5_firstPointOf cX5_firstPointOf 1 (some .int), Cond.methodLink RX3 46 yX3_between, Cond.instanceMethod yX3_between, Cond.selects RX3 yX3_between yX3_between, Cond.code yX3_between cX3_between 6 (some .int), Cond.fieldLink RX3 11 "GreyReel$Studio" "ahead" "[I", Cond.methodLink RX0 124 yX0_take, Cond.instanceMethod yX0_take, Cond.selects RX0 yX0_take yX0_take]
def wsX0_seekVector_r3 : List Cond := [Cond.code yX0_take cX0_take 5 none, Cond.fieldLink RX0 18 "GreyReel$Coder" "bestKind" "I", Cond.static yX5_isWithin, Cond.code yX5_isWithin cX5_isWithin 3 (some .boolean)]
def wsX0_seekVector : List Cond := .code yX0_seekVector cX0_seekVector 8 none :: ((wsX0_seekVector_r1 ++ (wsX0_seekVector_r2 ++ wsX0_seekVector_r3)) ++ wsX00 ++ wsX20 ++ wsX30)
def wsX3_foretellMoved : List Cond := .code yX3_foretellMoved cX3_foretellMoved 9 none :: ([.fieldLink RX3 21 "GreyReel$Studio" "foretold" "[I", .methodLink RX3 42 yX3_startAhead, .instanceMethod yX3_startAhead, .selects RX3 yX3_startAhead yX3_startAhead, .initialized RX3, .code yX3_startAhead cX3_startAhead 8 (some .int), .methodLink RX3 46 yX3_between, .instanceMethod yX3_between, .selects RX3 yX3_between yX3_between, .code yX3_between cX3_between 6 (some .int), .fieldLink RX3 11 "GreyReel$Studio" "ahead" "[I"] ++ wsX30)
def wsJ7_fill_53178 : List Cond := .code yJ7_fill_53178 cJ7_fill_53178 4 none :: ([])
def wsX3_foretellFlat : List Cond := .code yX3_foretellFlat cX3_foretellFlat 6 none :: ([.fieldLink RX3 18 "GreyReel$Studio" "made" "[I", .fieldLink RX3 21 "GreyReel$Studio" "foretold" "[I", .static yX5_isFirstOfBand, .initialized RX5, .code yX5_isFirstOfBand cX5_isFirstOfBand 1 (some .boolean), .static yX5_firstPointOf, .code yX5_firstPointOf cX5_firstPointOf 1 (some .int), .methodLink RX3 62 yJ7_fill_53178, .static yJ7_fill_53178, .initialized RJ7, .code yJ7_fill_53178 cJ7_fill_53178 4 none] ++ wsX30)
def wsX3_foretellLeft : List Cond := .code yX3_foretellLeft cX3_foretellLeft 4 none :: ([.fieldLink RX3 21 "GreyReel$Studio" "foretold" "[I", .fieldLink RX3 18 "GreyReel$Studio" "made" "[I", .static yX5_isFirstOfBand, .initialized RX5, .code yX5_isFirstOfBand cX5_isFirstOfBand 1 (some .boolean), .static yX5_firstPointOf, .code yX5_firstPointOf cX5_firstPointOf 1 (some .int)] ++ wsX30)
def wsX5_clip : List Cond := .code yX5_clip cX5_clip 1 (some .int) :: ([])
def wsX3_foretellTrend : List Cond := .code yX3_foretellTrend cX3_foretellTrend 6 none :: ([.fieldLink RX3 18 "GreyReel$Studio" "made" "[I", .fieldLink RX3 21 "GreyReel$Studio" "foretold" "[I", .static yX5_isFirstOfBand, .initialized RX5, .code yX5_isFirstOfBand cX5_isFirstOfBand 1 (some .boolean), .static yX5_firstPointOf, .code yX5_firstPointOf cX5_firstPointOf 1 (some .int), .static yX5_clip, .code yX5_clip cX5_clip 1 (some .int)] ++ wsX30)
def wsX3_foretell_r1 : List Cond := [Cond.methodLink RX3 28 yX3_foretellMoved, Cond.instanceMethod yX3_foretellMoved, Cond.selects RX3 yX3_foretellMoved yX3_foretellMoved, Cond.initialized RX3, Cond.code yX3_foretellMoved cX3_foretellMoved 9 none, Cond.fieldLink RX3 21 "GreyReel$Studio" "foretold" "[I", Cond.methodLink RX3 42 yX3_startAhead, Cond.instanceMethod yX3_startAhead, Cond.selects RX3 yX3_startAhead yX3_startAhead, Cond.code yX3_startAhead cX3_startAhead 8 (some .int), Cond.methodLink RX3 46 yX3_between, Cond.instanceMethod yX3_between, Cond.selects RX3 yX3_between yX3_between, Cond.code yX3_between cX3_between 6 (some .int), Cond.fieldLink RX3 11 "GreyReel$Studio" "ahead" "[I", Cond.methodLink RX3 32 yX3_foretellFlat, Cond.instanceMethod yX3_foretellFlat, Cond.selects RX3 yX3_foretellFlat yX3_foretellFlat, Cond.code yX3_foretellFlat cX3_foretellFlat 6 none, Cond.fieldLink RX3 18 "GreyReel$Studio" "made" "[I", Cond.static yX5_isFirstOfBand, Cond.initialized RX5, Cond.code yX5_isFirstOfBand cX5_isFirstOfBand 1 (some .boolean), Cond.static yX5_firstPointOf]
def wsX3_foretell_r2 : List Cond := [Cond.code yX5_firstPointOf cX5_firstPointOf 1 (some .int), Cond.methodLink RX3 62 yJ7_fill_53178, Cond.static yJ7_fill_53178, Cond.initialized RJ7, Cond.code yJ7_fill_53178 cJ7_fill_53178 4 none, Cond.methodLink RX3 36 yX3_foretellLeft, Cond.instanceMethod yX3_foretellLeft, Cond.selects RX3 yX3_foretellLeft yX3_foretellLeft, Cond.code yX3_foretellLeft cX3_foretellLeft 4 none, Cond.methodLink RX3 39 yX3_foretellTrend, Cond.instanceMethod yX3_foretellTrend, Cond.selects RX3 yX3_foretellTrend yX3_foretellTrend, Cond.code yX3_foretellTrend cX3_foretellTrend 6 none, Cond.static yX5_clip, Cond.code yX5_clip cX5_clip 1 (some .int)]
def wsX3_foretell : List Cond := .code yX3_foretell cX3_foretell 5 none :: ((wsX3_foretell_r1 ++ wsX3_foretell_r2) ++ wsX30)
def wsX3_difference : List Cond := .code yX3_difference cX3_difference 6 (some .int) :: ([.fieldLink RX3 21 "GreyReel$Studio" "foretold" "[I", .methodLink RX3 53 Lib.Math.abs.name, .static Lib.Math.abs.name, .initialized "java/lang/Math", .code Lib.Math.abs.name Lib.Math.abs.code 1 (some .int), .static yX5_firstPointOf, .initialized RX5, .code yX5_firstPointOf cX5_firstPointOf 1 (some .int)] ++ wsX30)
def wsX0_tryKind_r1 : List Cond := [Cond.fieldLink RX0 12 "GreyReel$Coder" "studio" "LGreyReel$Studio;", Cond.fieldLink RX0 28 "GreyReel$Coder" "bestPrice" "I", Cond.methodLink RX0 73 yX3_foretell, Cond.instanceMethod yX3_foretell, Cond.selects RX3 yX3_foretell yX3_foretell, Cond.initialized RX3, Cond.code yX3_foretell cX3_foretell 5 none, Cond.methodLink RX3 28 yX3_foretellMoved, Cond.instanceMethod yX3_foretellMoved, Cond.selects RX3 yX3_foretellMoved yX3_foretellMoved, Cond.code yX3_foretellMoved cX3_foretellMoved 9 none, Cond.fieldLink RX3 21 "GreyReel$Studio" "foretold" "[I", Cond.methodLink RX3 42 yX3_startAhead, Cond.instanceMethod yX3_startAhead, Cond.selects RX3 yX3_startAhead yX3_startAhead, Cond.code yX3_startAhead cX3_startAhead 8 (some .int), Cond.methodLink RX3 46 yX3_between, Cond.instanceMethod yX3_between, Cond.selects RX3 yX3_between yX3_between, Cond.code yX3_between cX3_between 6 (some .int), Cond.fieldLink RX3 11 "GreyReel$Studio" "ahead" "[I", Cond.methodLink RX3 32 yX3_foretellFlat, Cond.instanceMethod yX3_foretellFlat, Cond.selects RX3 yX3_foretellFlat yX3_foretellFlat]
def wsX0_tryKind_r2 : List Cond := [Cond.code yX3_foretellFlat cX3_foretellFlat 6 none, Cond.fieldLink RX3 18 "GreyReel$Studio" "made" "[I", Cond.static yX5_isFirstOfBand, Cond.initialized RX5, Cond.code yX5_isFirstOfBand cX5_isFirstOfBand 1 (some .boolean), Cond.static yX5_firstPointOf, Cond.code yX5_firstPointOf cX5_firstPointOf 1 (some .int), Cond.methodLink RX3 62 yJ7_fill_53178, Cond.static yJ7_fill_53178, Cond.initialized RJ7, Cond.code yJ7_fill_53178 cJ7_fill_53178 4 none, Cond.methodLink RX3 36 yX3_foretellLeft, Cond.instanceMethod yX3_foretellLeft, Cond.selects RX3 yX3_foretellLeft yX3_foretellLeft, Cond.code yX3_foretellLeft cX3_foretellLeft 4 none, Cond.methodLink RX3 39 yX3_foretellTrend, Cond.instanceMethod yX3_foretellTrend, Cond.selects RX3 yX3_foretellTrend yX3_foretellTrend, Cond.code yX3_foretellTrend cX3_foretellTrend 6 none, Cond.static yX5_clip, Cond.code yX5_clip cX5_clip 1 (some .int), Cond.methodLink RX0 127 yX3_difference, Cond.instanceMethod yX3_difference, Cond.selects RX3 yX3_difference yX3_difference]
def wsX0_tryKind_r3 : List Cond := [Cond.code yX3_difference cX3_difference 6 (some .int), Cond.methodLink RX3 53 Lib.Math.abs.name, Cond.static Lib.Math.abs.name, Cond.initialized "java/lang/Math", Cond.code Lib.Math.abs.name Lib.Math.abs.code 1 (some .int), Cond.methodLink RX0 124 yX0_take, Cond.instanceMethod yX0_take, Cond.selects RX0 yX0_take yX0_take, Cond.initialized RX0, Cond.code yX0_take cX0_take 5 none, Cond.fieldLink RX0 18 "GreyReel$Coder" "bestKind" "I", Cond.fieldLink RX0 22 "GreyReel$Coder" "bestX" "I", Cond.fieldLink RX0 25 "GreyReel$Coder" "bestY" "I"]
def wsX0_tryKind : List Cond := .code yX0_tryKind cX0_tryKind 6 none :: ((wsX0_tryKind_r1 ++ (wsX0_tryKind_r2 ++ wsX0_tryKind_r3)) ++ wsX00 ++ wsX30)
def wsX3_placeInBlock : List Cond := .code yX3_placeInBlock cX3_placeInBlock 4 (some .int) :: ([])
def wsX3_pointOf : List Cond := .code yX3_pointOf cX3_pointOf 2 (some .int) :: ([.static yX5_firstPointOf, .initialized RX5, .code yX5_firstPointOf cX5_firstPointOf 1 (some .int)])
def wsX3_turnFour : List Cond := .code yX3_turnFour cX3_turnFour 7 none :: ([.fieldLink RX3 15 "GreyReel$Studio" "quarterNumbers" "[I"] ++ wsX30)
def wsX3_turnQuarter : List Cond := .code yX3_turnQuarter cX3_turnQuarter 2 none :: ([.methodLink RX3 86 yX3_turnFour, .instanceMethod yX3_turnFour, .selects RX3 yX3_turnFour yX3_turnFour, .initialized RX3, .code yX3_turnFour cX3_turnFour 7 none, .fieldLink RX3 15 "GreyReel$Studio" "quarterNumbers" "[I"] ++ wsX30)
def wsX3_levelOf : List Cond := .code yX3_levelOf cX3_levelOf 4 (some .int) :: ([.methodLink RX3 53 Lib.Math.abs.name, .static Lib.Math.abs.name, .initialized "java/lang/Math", .code Lib.Math.abs.name Lib.Math.abs.code 1 (some .int)])
def wsX3_measure_r1 : List Cond := [Cond.fieldLink RX3 15 "GreyReel$Studio" "quarterNumbers" "[I", Cond.fieldLink RX3 21 "GreyReel$Studio" "foretold" "[I", Cond.fieldLink RX3 80 "GreyReel$Studio" "ORDER" "[I", Cond.methodLink RX3 71 yX3_placeInBlock, Cond.static yX3_placeInBlock, Cond.initialized RX3, Cond.code yX3_placeInBlock cX3_placeInBlock 4 (some .int), Cond.methodLink RX3 74 yX3_pointOf, Cond.static yX3_pointOf, Cond.code yX3_pointOf cX3_pointOf 2 (some .int), Cond.static yX5_firstPointOf, Cond.initialized RX5, Cond.code yX5_firstPointOf cX5_firstPointOf 1 (some .int), Cond.methodLink RX3 77 yX3_turnQuarter, Cond.instanceMethod yX3_turnQuarter, Cond.selects RX3 yX3_turnQuarter yX3_turnQuarter, Cond.code yX3_turnQuarter cX3_turnQuarter 2 none, Cond.methodLink RX3 86 yX3_turnFour, Cond.instanceMethod yX3_turnFour, Cond.selects RX3 yX3_turnFour yX3_turnFour, Cond.code yX3_turnFour cX3_turnFour 7 none, Cond.methodLink RX3 83 yX3_levelOf, Cond.static yX3_levelOf, Cond.code yX3_levelOf cX3_levelOf 4 (some .int)]
def wsX3_measure_r2 : List Cond := [Cond.methodLink RX3 53 Lib.Math.abs.name, Cond.static Lib.Math.abs.name, Cond.initialized "java/lang/Math", Cond.code Lib.Math.abs.name Lib.Math.abs.code 1 (some .int)]
def wsX3_measure : List Cond := .code yX3_measure cX3_measure 10 (some .boolean) :: ((wsX3_measure_r1 ++ wsX3_measure_r2) ++ wsX30)
def wsX3_makeBlock : List Cond := .code yX3_makeBlock cX3_makeBlock 8 none :: ([.fieldLink RX3 15 "GreyReel$Studio" "quarterNumbers" "[I", .fieldLink RX3 80 "GreyReel$Studio" "ORDER" "[I", .fieldLink RX3 18 "GreyReel$Studio" "made" "[I", .fieldLink RX3 21 "GreyReel$Studio" "foretold" "[I", .methodLink RX3 77 yX3_turnQuarter, .instanceMethod yX3_turnQuarter, .selects RX3 yX3_turnQuarter yX3_turnQuarter, .initialized RX3, .code yX3_turnQuarter cX3_turnQuarter 2 none, .methodLink RX3 86 yX3_turnFour, .instanceMethod yX3_turnFour, .selects RX3 yX3_turnFour yX3_turnFour, .code yX3_turnFour cX3_turnFour 7 none, .methodLink RX3 71 yX3_placeInBlock, .static yX3_placeInBlock, .code yX3_placeInBlock cX3_placeInBlock 4 (some .int), .methodLink RX3 74 yX3_pointOf, .static yX3_pointOf, .code yX3_pointOf cX3_pointOf 2 (some .int), .static yX5_firstPointOf, .initialized RX5, .code yX5_firstPointOf cX5_firstPointOf 1 (some .int), .static yX5_clip, .code yX5_clip cX5_clip 1 (some .int)] ++ wsX30)
def wsX0_codeBlock_r1 : List Cond := [Cond.fieldLink RX0 41 "GreyReel$Picture" "q" "I", Cond.constant RX0 58 (1048576), Cond.fieldLink RX0 28 "GreyReel$Coder" "bestPrice" "I", Cond.fieldLink RX0 59 "GreyReel$Picture" "isKeyPicture" "Z", Cond.fieldLink RX0 12 "GreyReel$Coder" "studio" "LGreyReel$Studio;", Cond.fieldLink RX0 18 "GreyReel$Coder" "bestKind" "I", Cond.fieldLink RX0 22 "GreyReel$Coder" "bestX" "I", Cond.fieldLink RX0 25 "GreyReel$Coder" "bestY" "I", Cond.fieldLink RX0 77 "GreyReel$Picture" "level" "[I", Cond.fieldLink RX0 91 "GreyReel$Picture" "kind" "[I", Cond.fieldLink RX0 94 "GreyReel$Picture" "vx" "[I", Cond.fieldLink RX0 97 "GreyReel$Picture" "vy" "[I", Cond.fieldLink RX0 100 "GreyReel$Picture" "price" "[I", Cond.methodLink RX0 62 yX0_seekVector, Cond.instanceMethod yX0_seekVector, Cond.selects RX0 yX0_seekVector yX0_seekVector, Cond.initialized RX0, Cond.code yX0_seekVector cX0_seekVector 8 none, Cond.methodLink RX0 107 yX0_tryVector, Cond.instanceMethod yX0_tryVector, Cond.selects RX0 yX0_tryVector yX0_tryVector, Cond.code yX0_tryVector cX0_tryVector 9 none, Cond.methodLink RX0 115 Lib.Math.abs.name, Cond.static Lib.Math.abs.name]
def wsX0_codeBlock_r2 : List Cond := [Cond.initialized "java/lang/Math", Cond.code Lib.Math.abs.name Lib.Math.abs.code 1 (some .int), Cond.methodLink RX0 84 yX2_expectedX, Cond.instanceMethod yX2_expectedX, Cond.selects RX2 yX2_expectedX yX2_expectedX, Cond.initialized RX2, Cond.code yX2_expectedX cX2_expectedX 2 (some .int), Cond.fieldLink RX2 15 "GreyReel$Picture" "vx" "[I", Cond.static yX5_isFirstOfBand, Cond.initialized RX5, Cond.code yX5_isFirstOfBand cX5_isFirstOfBand 1 (some .boolean), Cond.methodLink RX0 88 yX2_expectedY, Cond.instanceMethod yX2_expectedY, Cond.selects RX2 yX2_expectedY yX2_expectedY, Cond.code yX2_expectedY cX2_expectedY 2 (some .int), Cond.fieldLink RX2 18 "GreyReel$Picture" "vy" "[I", Cond.methodLink RX0 120 yX3_differenceMoved, Cond.instanceMethod yX3_differenceMoved, Cond.selects RX3 yX3_differenceMoved yX3_differenceMoved, Cond.initialized RX3, Cond.code yX3_differenceMoved cX3_differenceMoved 14 (some .int), Cond.methodLink RX3 53 Lib.Math.abs.name, Cond.methodLink RX3 42 yX3_startAhead, Cond.instanceMethod yX3_startAhead]
def wsX0_codeBlock_r3 : List Cond := [Cond.selects RX3 yX3_startAhead yX3_startAhead, Cond.code yX3_startAhead cX3_startAhead 8 (some .int), Cond.static yX5_firstPointOf, Cond.code yX5_firstPointOf cX5_firstPointOf 1 (some .int), Cond.methodLink RX3 46 yX3_between, Cond.instanceMethod yX3_between, Cond.selects RX3 yX3_between yX3_between, Cond.code yX3_between cX3_between 6 (some .int), Cond.fieldLink RX3 11 "GreyReel$Studio" "ahead" "[I", Cond.methodLink RX0 124 yX0_take, Cond.instanceMethod yX0_take, Cond.selects RX0 yX0_take yX0_take, Cond.code yX0_take cX0_take 5 none, Cond.static yX5_isWithin, Cond.code yX5_isWithin cX5_isWithin 3 (some .boolean), Cond.methodLink RX0 65 yX0_tryKind, Cond.instanceMethod yX0_tryKind, Cond.selects RX0 yX0_tryKind yX0_tryKind, Cond.code yX0_tryKind cX0_tryKind 6 none, Cond.methodLink RX0 73 yX3_foretell, Cond.instanceMethod yX3_foretell, Cond.selects RX3 yX3_foretell yX3_foretell, Cond.code yX3_foretell cX3_foretell 5 none, Cond.methodLink RX3 28 yX3_foretellMoved]
def wsX0_codeBlock_r4 : List Cond := [Cond.instanceMethod yX3_foretellMoved, Cond.selects RX3 yX3_foretellMoved yX3_foretellMoved, Cond.code yX3_foretellMoved cX3_foretellMoved 9 none, Cond.fieldLink RX3 21 "GreyReel$Studio" "foretold" "[I", Cond.methodLink RX3 32 yX3_foretellFlat, Cond.instanceMethod yX3_foretellFlat, Cond.selects RX3 yX3_foretellFlat yX3_foretellFlat, Cond.code yX3_foretellFlat cX3_foretellFlat 6 none, Cond.fieldLink RX3 18 "GreyReel$Studio" "made" "[I", Cond.methodLink RX3 62 yJ7_fill_53178, Cond.static yJ7_fill_53178, Cond.initialized RJ7, Cond.code yJ7_fill_53178 cJ7_fill_53178 4 none, Cond.methodLink RX3 36 yX3_foretellLeft, Cond.instanceMethod yX3_foretellLeft, Cond.selects RX3 yX3_foretellLeft yX3_foretellLeft, Cond.code yX3_foretellLeft cX3_foretellLeft 4 none, Cond.methodLink RX3 39 yX3_foretellTrend, Cond.instanceMethod yX3_foretellTrend, Cond.selects RX3 yX3_foretellTrend yX3_foretellTrend, Cond.code yX3_foretellTrend cX3_foretellTrend 6 none, Cond.static yX5_clip, Cond.code yX5_clip cX5_clip 1 (some .int), Cond.methodLink RX0 127 yX3_difference]
def wsX0_codeBlock_r5 : List Cond := [Cond.instanceMethod yX3_difference, Cond.selects RX3 yX3_difference yX3_difference, Cond.code yX3_difference cX3_difference 6 (some .int), Cond.methodLink RX0 80 yX3_measure, Cond.instanceMethod yX3_measure, Cond.selects RX3 yX3_measure yX3_measure, Cond.code yX3_measure cX3_measure 10 (some .boolean), Cond.fieldLink RX3 15 "GreyReel$Studio" "quarterNumbers" "[I", Cond.fieldLink RX3 80 "GreyReel$Studio" "ORDER" "[I", Cond.methodLink RX3 71 yX3_placeInBlock, Cond.static yX3_placeInBlock, Cond.code yX3_placeInBlock cX3_placeInBlock 4 (some .int), Cond.methodLink RX3 74 yX3_pointOf, Cond.static yX3_pointOf, Cond.code yX3_pointOf cX3_pointOf 2 (some .int), Cond.methodLink RX3 77 yX3_turnQuarter, Cond.instanceMethod yX3_turnQuarter, Cond.selects RX3 yX3_turnQuarter yX3_turnQuarter, Cond.code yX3_turnQuarter cX3_turnQuarter 2 none, Cond.methodLink RX3 86 yX3_turnFour, Cond.instanceMethod yX3_turnFour, Cond.selects RX3 yX3_turnFour yX3_turnFour, Cond.code yX3_turnFour cX3_turnFour 7 none, Cond.methodLink RX3 83 yX3_levelOf]
def wsX0_codeBlock_r6 : List Cond := [Cond.static yX3_levelOf, Cond.code yX3_levelOf cX3_levelOf 4 (some .int), Cond.methodLink RX0 103 yX3_makeBlock, Cond.instanceMethod yX3_makeBlock, Cond.selects RX3 yX3_makeBlock yX3_makeBlock, Cond.code yX3_makeBlock cX3_makeBlock 8 none]
def wsX0_codeBlock : List Cond := .code yX0_codeBlock cX0_codeBlock 7 none :: ((wsX0_codeBlock_r1 ++ (wsX0_codeBlock_r2 ++ (wsX0_codeBlock_r3 ++ (wsX0_codeBlock_r4 ++ (wsX0_codeBlock_r5 ++ wsX0_codeBlock_r6))))) ++ wsX20 ++ wsX00 ++ wsX30)
def wsX3_smoothAcross : List Cond := .code yX3_smoothAcross cX3_smoothAcross 10 none :: ([.fieldLink RX3 18 "GreyReel$Studio" "made" "[I", .methodLink RX3 53 Lib.Math.abs.name, .static Lib.Math.abs.name, .initialized "java/lang/Math", .code Lib.Math.abs.name Lib.Math.abs.code 1 (some .int)] ++ wsX30)
def wsX3_smooth : List Cond := .code yX3_smooth cX3_smooth 4 none :: ([.methodLink RX3 90 yX3_smoothAcross, .instanceMethod yX3_smoothAcross, .selects RX3 yX3_smoothAcross yX3_smoothAcross, .initialized RX3, .code yX3_smoothAcross cX3_smoothAcross 10 none, .fieldLink RX3 18 "GreyReel$Studio" "made" "[I", .methodLink RX3 53 Lib.Math.abs.name, .static Lib.Math.abs.name, .initialized "java/lang/Math", .code Lib.Math.abs.name Lib.Math.abs.code 1 (some .int)] ++ wsX30)
def wsX0_codeAll_r1 : List Cond := [Cond.fieldLink RX0 35 "GreyReel$Picture" "isSmoothed" "Z", Cond.fieldLink RX0 12 "GreyReel$Coder" "studio" "LGreyReel$Studio;", Cond.fieldLink RX0 41 "GreyReel$Picture" "q" "I", Cond.fieldLink RX0 48 "GreyReel$Studio" "made" "[I", Cond.fieldLink RX0 52 "GreyReel$Picture" "result" "[I", Cond.fieldLink RX0 55 "GreyReel$Picture" "error" "I", Cond.methodLink RX0 31 yX0_codeBlock, Cond.instanceMethod yX0_codeBlock, Cond.selects RX0 yX0_codeBlock yX0_codeBlock, Cond.initialized RX0, Cond.code yX0_codeBlock cX0_codeBlock 7 none, Cond.constant RX0 58 (1048576), Cond.fieldLink RX0 28 "GreyReel$Coder" "bestPrice" "I", Cond.fieldLink RX0 59 "GreyReel$Picture" "isKeyPicture" "Z", Cond.fieldLink RX0 18 "GreyReel$Coder" "bestKind" "I", Cond.fieldLink RX0 22 "GreyReel$Coder" "bestX" "I", Cond.fieldLink RX0 25 "GreyReel$Coder" "bestY" "I", Cond.fieldLink RX0 77 "GreyReel$Picture" "level" "[I", Cond.fieldLink RX0 91 "GreyReel$Picture" "kind" "[I", Cond.fieldLink RX0 94 "GreyReel$Picture" "vx" "[I", Cond.fieldLink RX0 97 "GreyReel$Picture" "vy" "[I", Cond.fieldLink RX0 100 "GreyReel$Picture" "price" "[I", Cond.methodLink RX0 62 yX0_seekVector, Cond.instanceMethod yX0_seekVector]
def wsX0_codeAll_r2 : List Cond := [Cond.selects RX0 yX0_seekVector yX0_seekVector, Cond.code yX0_seekVector cX0_seekVector 8 none, Cond.methodLink RX0 107 yX0_tryVector, Cond.instanceMethod yX0_tryVector, Cond.selects RX0 yX0_tryVector yX0_tryVector, Cond.code yX0_tryVector cX0_tryVector 9 none, Cond.methodLink RX0 115 Lib.Math.abs.name, Cond.static Lib.Math.abs.name, Cond.initialized "java/lang/Math", Cond.code Lib.Math.abs.name Lib.Math.abs.code 1 (some .int), Cond.methodLink RX0 84 yX2_expectedX, Cond.instanceMethod yX2_expectedX, Cond.selects RX2 yX2_expectedX yX2_expectedX, Cond.initialized RX2, Cond.code yX2_expectedX cX2_expectedX 2 (some .int), Cond.fieldLink RX2 15 "GreyReel$Picture" "vx" "[I", Cond.static yX5_isFirstOfBand, Cond.initialized RX5, Cond.code yX5_isFirstOfBand cX5_isFirstOfBand 1 (some .boolean), Cond.methodLink RX0 88 yX2_expectedY, Cond.instanceMethod yX2_expectedY, Cond.selects RX2 yX2_expectedY yX2_expectedY, Cond.code yX2_expectedY cX2_expectedY 2 (some .int), Cond.fieldLink RX2 18 "GreyReel$Picture" "vy" "[I"]
def wsX0_codeAll_r3 : List Cond := [Cond.methodLink RX0 120 yX3_differenceMoved, Cond.instanceMethod yX3_differenceMoved, Cond.selects RX3 yX3_differenceMoved yX3_differenceMoved, Cond.initialized RX3, Cond.code yX3_differenceMoved cX3_differenceMoved 14 (some .int), Cond.methodLink RX3 53 Lib.Math.abs.name, Cond.methodLink RX3 42 yX3_startAhead, Cond.instanceMethod yX3_startAhead, Cond.selects RX3 yX3_startAhead yX3_startAhead, Cond.code yX3_startAhead cX3_startAhead 8 (some .int), Cond.static yX5_firstPointOf, Cond.code yX5_firstPointOf cX5_firstPointOf 1 (some .int), Cond.methodLink RX3 46 yX3_between, Cond.instanceMethod yX3_between, Cond.selects RX3 yX3_between yX3_between, Cond.code yX3_between cX3_between 6 (some .int), Cond.fieldLink RX3 11 "GreyReel$Studio" "ahead" "[I", Cond.methodLink RX0 124 yX0_take, Cond.instanceMethod yX0_take, Cond.selects RX0 yX0_take yX0_take, Cond.code yX0_take cX0_take 5 none, Cond.static yX5_isWithin, Cond.code yX5_isWithin cX5_isWithin 3 (some .boolean), Cond.methodLink RX0 65 yX0_tryKind]
def wsX0_codeAll_r4 : List Cond := [Cond.instanceMethod yX0_tryKind, Cond.selects RX0 yX0_tryKind yX0_tryKind, Cond.code yX0_tryKind cX0_tryKind 6 none, Cond.methodLink RX0 73 yX3_foretell, Cond.instanceMethod yX3_foretell, Cond.selects RX3 yX3_foretell yX3_foretell, Cond.code yX3_foretell cX3_foretell 5 none, Cond.methodLink RX3 28 yX3_foretellMoved, Cond.instanceMethod yX3_foretellMoved, Cond.selects RX3 yX3_foretellMoved yX3_foretellMoved, Cond.code yX3_foretellMoved cX3_foretellMoved 9 none, Cond.fieldLink RX3 21 "GreyReel$Studio" "foretold" "[I", Cond.methodLink RX3 32 yX3_foretellFlat, Cond.instanceMethod yX3_foretellFlat, Cond.selects RX3 yX3_foretellFlat yX3_foretellFlat, Cond.code yX3_foretellFlat cX3_foretellFlat 6 none, Cond.fieldLink RX3 18 "GreyReel$Studio" "made" "[I", Cond.methodLink RX3 62 yJ7_fill_53178, Cond.static yJ7_fill_53178, Cond.initialized RJ7, Cond.code yJ7_fill_53178 cJ7_fill_53178 4 none, Cond.methodLink RX3 36 yX3_foretellLeft, Cond.instanceMethod yX3_foretellLeft, Cond.selects RX3 yX3_foretellLeft yX3_foretellLeft]
def wsX0_codeAll_r5 : List Cond := [Cond.code yX3_foretellLeft cX3_foretellLeft 4 none, Cond.methodLink RX3 39 yX3_foretellTrend, Cond.instanceMethod yX3_foretellTrend, Cond.selects RX3 yX3_foretellTrend yX3_foretellTrend, Cond.code yX3_foretellTrend cX3_foretellTrend 6 none, Cond.static yX5_clip, Cond.code yX5_clip cX5_clip 1 (some .int), Cond.methodLink RX0 127 yX3_difference, Cond.instanceMethod yX3_difference, Cond.selects RX3 yX3_difference yX3_difference, Cond.code yX3_difference cX3_difference 6 (some .int), Cond.methodLink RX0 80 yX3_measure, Cond.instanceMethod yX3_measure, Cond.selects RX3 yX3_measure yX3_measure, Cond.code yX3_measure cX3_measure 10 (some .boolean), Cond.fieldLink RX3 15 "GreyReel$Studio" "quarterNumbers" "[I", Cond.fieldLink RX3 80 "GreyReel$Studio" "ORDER" "[I", Cond.methodLink RX3 71 yX3_placeInBlock, Cond.static yX3_placeInBlock, Cond.code yX3_placeInBlock cX3_placeInBlock 4 (some .int), Cond.methodLink RX3 74 yX3_pointOf, Cond.static yX3_pointOf, Cond.code yX3_pointOf cX3_pointOf 2 (some .int), Cond.methodLink RX3 77 yX3_turnQuarter]
def wsX0_codeAll_r6 : List Cond := [Cond.instanceMethod yX3_turnQuarter, Cond.selects RX3 yX3_turnQuarter yX3_turnQuarter, Cond.code yX3_turnQuarter cX3_turnQuarter 2 none, Cond.methodLink RX3 86 yX3_turnFour, Cond.instanceMethod yX3_turnFour, Cond.selects RX3 yX3_turnFour yX3_turnFour, Cond.code yX3_turnFour cX3_turnFour 7 none, Cond.methodLink RX3 83 yX3_levelOf, Cond.static yX3_levelOf, Cond.code yX3_levelOf cX3_levelOf 4 (some .int), Cond.methodLink RX0 103 yX3_makeBlock, Cond.instanceMethod yX3_makeBlock, Cond.selects RX3 yX3_makeBlock yX3_makeBlock, Cond.code yX3_makeBlock cX3_makeBlock 8 none, Cond.methodLink RX0 44 yX3_smooth, Cond.instanceMethod yX3_smooth, Cond.selects RX3 yX3_smooth yX3_smooth, Cond.code yX3_smooth cX3_smooth 4 none, Cond.methodLink RX3 90 yX3_smoothAcross, Cond.instanceMethod yX3_smoothAcross, Cond.selects RX3 yX3_smoothAcross yX3_smoothAcross, Cond.code yX3_smoothAcross cX3_smoothAcross 10 none]
def wsX0_codeAll : List Cond := .code yX0_codeAll cX0_codeAll 6 none :: ((wsX0_codeAll_r1 ++ (wsX0_codeAll_r2 ++ (wsX0_codeAll_r3 ++ (wsX0_codeAll_r4 ++ (wsX0_codeAll_r5 ++ wsX0_codeAll_r6))))) ++ wsX20 ++ wsX00 ++ wsX30)
def wsX1_init : List Cond := .code yX1_init cX1_init 1 none :: ([.methodLink RX1 3 objectInit, .instanceMethod objectInit, .code objectInit ⟨#[0xb1]⟩ 1 none, .arrayClass .int, .fieldLink RX1 11 "GreyReel$PacketWriter" "row" "[I", .fieldLink RX1 15 "GreyReel$PacketWriter" "kindRow" "[I", .fieldLink RX1 18 "GreyReel$PacketWriter" "mean" "[I", .fieldLink RX1 21 "GreyReel$PacketWriter" "bitsWritten" "I"] ++ wsX10)
def wsX5_onRow : List Cond := .code yX5_onRow cX5_onRow 2 (some .int) :: ([.methodLink RX5 92 Lib.Math.min.name, .static Lib.Math.min.name, .initialized "java/lang/Math", .code Lib.Math.min.name Lib.Math.min.code 2 (some .int), .methodLink RX5 86 Lib.Math.max.name, .static Lib.Math.max.name, .code Lib.Math.max.name Lib.Math.max.code 2 (some .int)])
def wsJ7_copyOf_59c91 : List Cond := .code yJ7_copyOf_59c91 cJ7_copyOf_59c91 3 (some (.array .int)) :: ([.methodLink RJ7 316 ⟨"[I", "clone", "()Ljava/lang/Object;"⟩, .sameMethod "[I" "java/lang/Object" "clone" "()Ljava/lang/Object;", .native ⟨"java/lang/Object", "clone", "()Ljava/lang/Object;"⟩, .instanceMethod ⟨"java/lang/Object", "clone", "()Ljava/lang/Object;"⟩, .selects "[I" ⟨"[I", "clone", "()Ljava/lang/Object;"⟩ ⟨"java/lang/Object", "clone", "()Ljava/lang/Object;"⟩, .classLink RJ7 317 "[I", .arrayClass .int, .methodLink RJ7 304 Lib.Math.min.name, .static Lib.Math.min.name, .initialized "java/lang/Math", .code Lib.Math.min.name Lib.Math.min.code 2 (some .int), .methodLink RJ7 150 arraycopyName, .native arraycopyName, .static arraycopyName, .initialized "java/lang/System"])
def wsX1_copyOfBytes_r1 : List Cond := [Cond.fieldLink RX1 11 "GreyReel$PacketWriter" "row" "[I", Cond.static yX5_onRow, Cond.initialized RX5, Cond.code yX5_onRow cX5_onRow 2 (some .int), Cond.methodLink RX5 92 Lib.Math.min.name, Cond.static Lib.Math.min.name, Cond.initialized "java/lang/Math", Cond.code Lib.Math.min.name Lib.Math.min.code 2 (some .int), Cond.methodLink RX5 86 Lib.Math.max.name, Cond.static Lib.Math.max.name, Cond.code Lib.Math.max.name Lib.Math.max.code 2 (some .int), Cond.methodLink RX1 29 yJ7_copyOf_59c91, Cond.static yJ7_copyOf_59c91, Cond.initialized RJ7, Cond.code yJ7_copyOf_59c91 cJ7_copyOf_59c91 3 (some (.array .int)), Cond.methodLink RJ7 316 ⟨"[I", "clone", "()Ljava/lang/Object;"⟩, Cond.sameMethod "[I" "java/lang/Object" "clone" "()Ljava/lang/Object;", Cond.native ⟨"java/lang/Object", "clone", "()Ljava/lang/Object;"⟩, Cond.instanceMethod ⟨"java/lang/Object", "clone", "()Ljava/lang/Object;"⟩, Cond.selects "[I" ⟨"[I", "clone", "()Ljava/lang/Object;"⟩ ⟨"java/lang/Object", "clone", "()Ljava/lang/Object;"⟩, Cond.classLink RJ7 317 "[I", Cond.arrayClass .int, Cond.methodLink RJ7 304 Lib.Math.min.name, Cond.methodLink RJ7 150 arraycopyName]
def wsX1_copyOfBytes_r2 : List Cond := [Cond.native arraycopyName, Cond.static arraycopyName, Cond.initialized "java/lang/System"]
def wsX1_copyOfBytes : List Cond := .code yX1_copyOfBytes cX1_copyOfBytes 2 (some (.array .int)) :: ((wsX1_copyOfBytes_r1 ++ wsX1_copyOfBytes_r2) ++ wsX10)
def wsX1_put : List Cond := .code yX1_put cX1_put 5 none :: ([.fieldLink RX1 21 "GreyReel$PacketWriter" "bitsWritten" "I", .fieldLink RX1 11 "GreyReel$PacketWriter" "row" "[I"] ++ wsX10)
def wsX1_startBand : List Cond := .code yX1_startBand cX1_startBand 3 none :: ([.fieldLink RX1 15 "GreyReel$PacketWriter" "kindRow" "[I", .fieldLink RX1 18 "GreyReel$PacketWriter" "mean" "[I", .fieldLink RX1 56 "GreyReel$Picture" "number" "I", .fieldLink RX1 63 "GreyReel$Picture" "isKeyPicture" "Z", .fieldLink RX1 67 "GreyReel$Picture" "q" "I", .fieldLink RX1 70 "GreyReel$Picture" "isSmoothed" "Z", .methodLink RX1 35 yJ7_fill_53178, .static yJ7_fill_53178, .initialized RJ7, .code yJ7_fill_53178 cJ7_fill_53178 4 none, .methodLink RX1 59 yX1_put, .instanceMethod yX1_put, .selects RX1 yX1_put yX1_put, .initialized RX1, .code yX1_put cX1_put 5 none, .fieldLink RX1 21 "GreyReel$PacketWriter" "bitsWritten" "I", .fieldLink RX1 11 "GreyReel$PacketWriter" "row" "[I"] ++ wsX10 ++ wsX20)
def wsX1_putOnes : List Cond := .code yX1_putOnes cX1_putOnes 2 none :: ([.methodLink RX1 59 yX1_put, .instanceMethod yX1_put, .selects RX1 yX1_put yX1_put, .initialized RX1, .code yX1_put cX1_put 5 none, .fieldLink RX1 21 "GreyReel$PacketWriter" "bitsWritten" "I", .fieldLink RX1 11 "GreyReel$PacketWriter" "row" "[I"] ++ wsX10)
def wsX1_writeKind : List Cond := .code yX1_writeKind cX1_writeKind 4 none :: ([.fieldLink RX1 15 "GreyReel$PacketWriter" "kindRow" "[I", .methodLink RX1 101 yX1_putOnes, .instanceMethod yX1_putOnes, .selects RX1 yX1_putOnes yX1_putOnes, .initialized RX1, .code yX1_putOnes cX1_putOnes 2 none, .methodLink RX1 59 yX1_put, .instanceMethod yX1_put, .selects RX1 yX1_put yX1_put, .code yX1_put cX1_put 5 none, .fieldLink RX1 21 "GreyReel$PacketWriter" "bitsWritten" "I", .fieldLink RX1 11 "GreyReel$PacketWriter" "row" "[I"] ++ wsX10)
def wsX5_folded : List Cond := .code yX5_folded cX5_folded 1 (some .int) :: ([])
def wsX1_writeSigned : List Cond := .code yX1_writeSigned cX1_writeSigned 4 none :: ([.static yX5_folded, .initialized RX5, .code yX5_folded cX5_folded 1 (some .int), .methodLink RX1 59 yX1_put, .instanceMethod yX1_put, .selects RX1 yX1_put yX1_put, .initialized RX1, .code yX1_put cX1_put 5 none, .fieldLink RX1 21 "GreyReel$PacketWriter" "bitsWritten" "I", .fieldLink RX1 11 "GreyReel$PacketWriter" "row" "[I"] ++ wsX10)
def wsX1_writeNumber : List Cond := .code yX1_writeNumber cX1_writeNumber 4 none :: ([.fieldLink RX1 18 "GreyReel$PacketWriter" "mean" "[I", .methodLink RX1 59 yX1_put, .instanceMethod yX1_put, .selects RX1 yX1_put yX1_put, .initialized RX1, .code yX1_put cX1_put 5 none, .fieldLink RX1 21 "GreyReel$PacketWriter" "bitsWritten" "I", .fieldLink RX1 11 "GreyReel$PacketWriter" "row" "[I", .methodLink RX1 101 yX1_putOnes, .instanceMethod yX1_putOnes, .selects RX1 yX1_putOnes yX1_putOnes, .code yX1_putOnes cX1_putOnes 2 none] ++ wsX10)
def wsX1_writeLevels : List Cond := .code yX1_writeLevels cX1_writeLevels 6 none :: ([.methodLink RX1 107 yX1_writeNumber, .instanceMethod yX1_writeNumber, .selects RX1 yX1_writeNumber yX1_writeNumber, .initialized RX1, .code yX1_writeNumber cX1_writeNumber 4 none, .fieldLink RX1 18 "GreyReel$PacketWriter" "mean" "[I", .methodLink RX1 59 yX1_put, .instanceMethod yX1_put, .selects RX1 yX1_put yX1_put, .code yX1_put cX1_put 5 none, .fieldLink RX1 21 "GreyReel$PacketWriter" "bitsWritten" "I", .fieldLink RX1 11 "GreyReel$PacketWriter" "row" "[I", .methodLink RX1 101 yX1_putOnes, .instanceMethod yX1_putOnes, .selects RX1 yX1_putOnes yX1_putOnes, .code yX1_putOnes cX1_putOnes 2 none, .static yX5_folded, .initialized RX5, .code yX5_folded cX5_folded 1 (some .int)] ++ wsX10)
def wsX1_writeBlock_r1 : List Cond := [Cond.fieldLink RX1 73 "GreyReel$Picture" "kind" "[I", Cond.fieldLink RX1 80 "GreyReel$Picture" "vx" "[I", Cond.fieldLink RX1 89 "GreyReel$Picture" "vy" "[I", Cond.fieldLink RX1 95 "GreyReel$Picture" "level" "[I", Cond.methodLink RX1 76 yX1_writeKind, Cond.instanceMethod yX1_writeKind, Cond.selects RX1 yX1_writeKind yX1_writeKind, Cond.initialized RX1, Cond.code yX1_writeKind cX1_writeKind 4 none, Cond.fieldLink RX1 15 "GreyReel$PacketWriter" "kindRow" "[I", Cond.methodLink RX1 101 yX1_putOnes, Cond.instanceMethod yX1_putOnes, Cond.selects RX1 yX1_putOnes yX1_putOnes, Cond.code yX1_putOnes cX1_putOnes 2 none, Cond.methodLink RX1 59 yX1_put, Cond.instanceMethod yX1_put, Cond.selects RX1 yX1_put yX1_put, Cond.code yX1_put cX1_put 5 none, Cond.fieldLink RX1 21 "GreyReel$PacketWriter" "bitsWritten" "I", Cond.fieldLink RX1 11 "GreyReel$PacketWriter" "row" "[I", Cond.methodLink RX1 83 yX2_expectedX, Cond.instanceMethod yX2_expectedX, Cond.selects RX2 yX2_expectedX yX2_expectedX, Cond.initialized RX2]
def wsX1_writeBlock_r2 : List Cond := [Cond.code yX2_expectedX cX2_expectedX 2 (some .int), Cond.fieldLink RX2 15 "GreyReel$Picture" "vx" "[I", Cond.static yX5_isFirstOfBand, Cond.initialized RX5, Cond.code yX5_isFirstOfBand cX5_isFirstOfBand 1 (some .boolean), Cond.methodLink RX1 86 yX1_writeSigned, Cond.instanceMethod yX1_writeSigned, Cond.selects RX1 yX1_writeSigned yX1_writeSigned, Cond.code yX1_writeSigned cX1_writeSigned 4 none, Cond.static yX5_folded, Cond.code yX5_folded cX5_folded 1 (some .int), Cond.methodLink RX1 92 yX2_expectedY, Cond.instanceMethod yX2_expectedY, Cond.selects RX2 yX2_expectedY yX2_expectedY, Cond.code yX2_expectedY cX2_expectedY 2 (some .int), Cond.fieldLink RX2 18 "GreyReel$Picture" "vy" "[I", Cond.methodLink RX1 98 yX1_writeLevels, Cond.instanceMethod yX1_writeLevels, Cond.selects RX1 yX1_writeLevels yX1_writeLevels, Cond.code yX1_writeLevels cX1_writeLevels 6 none, Cond.methodLink RX1 107 yX1_writeNumber, Cond.instanceMethod yX1_writeNumber, Cond.selects RX1 yX1_writeNumber yX1_writeNumber, Cond.code yX1_writeNumber cX1_writeNumber 4 none]
def wsX1_writeBlock_r3 : List Cond := [Cond.fieldLink RX1 18 "GreyReel$PacketWriter" "mean" "[I"]
def wsX1_writeBlock : List Cond := .code yX1_writeBlock cX1_writeBlock 5 none :: ((wsX1_writeBlock_r1 ++ (wsX1_writeBlock_r2 ++ wsX1_writeBlock_r3)) ++ wsX20 ++ wsX10)
def wsX2_bytesIn : List Cond := .code yX2_bytesIn cX2_bytesIn 2 (some .int) :: ([.fieldLink RX2 30 "GreyReel$Picture" "usedBits" "[I"] ++ wsX20)
def wsX1_write_r1 : List Cond := [Cond.fieldLink RX1 11 "GreyReel$PacketWriter" "row" "[I", Cond.fieldLink RX1 21 "GreyReel$PacketWriter" "bitsWritten" "I", Cond.fieldLink RX1 47 "GreyReel$Picture" "usedBits" "[I", Cond.methodLink RX1 35 yJ7_fill_53178, Cond.static yJ7_fill_53178, Cond.initialized RJ7, Cond.code yJ7_fill_53178 cJ7_fill_53178 4 none, Cond.methodLink RX1 39 yX1_startBand, Cond.instanceMethod yX1_startBand, Cond.selects RX1 yX1_startBand yX1_startBand, Cond.initialized RX1, Cond.code yX1_startBand cX1_startBand 3 none, Cond.fieldLink RX1 15 "GreyReel$PacketWriter" "kindRow" "[I", Cond.fieldLink RX1 18 "GreyReel$PacketWriter" "mean" "[I", Cond.fieldLink RX1 56 "GreyReel$Picture" "number" "I", Cond.fieldLink RX1 63 "GreyReel$Picture" "isKeyPicture" "Z", Cond.fieldLink RX1 67 "GreyReel$Picture" "q" "I", Cond.fieldLink RX1 70 "GreyReel$Picture" "isSmoothed" "Z", Cond.methodLink RX1 59 yX1_put, Cond.instanceMethod yX1_put, Cond.selects RX1 yX1_put yX1_put, Cond.code yX1_put cX1_put 5 none, Cond.methodLink RX1 43 yX1_writeBlock, Cond.instanceMethod yX1_writeBlock]
def wsX1_write_r2 : List Cond := [Cond.selects RX1 yX1_writeBlock yX1_writeBlock, Cond.code yX1_writeBlock cX1_writeBlock 5 none, Cond.fieldLink RX1 73 "GreyReel$Picture" "kind" "[I", Cond.fieldLink RX1 80 "GreyReel$Picture" "vx" "[I", Cond.fieldLink RX1 89 "GreyReel$Picture" "vy" "[I", Cond.fieldLink RX1 95 "GreyReel$Picture" "level" "[I", Cond.methodLink RX1 76 yX1_writeKind, Cond.instanceMethod yX1_writeKind, Cond.selects RX1 yX1_writeKind yX1_writeKind, Cond.code yX1_writeKind cX1_writeKind 4 none, Cond.methodLink RX1 101 yX1_putOnes, Cond.instanceMethod yX1_putOnes, Cond.selects RX1 yX1_putOnes yX1_putOnes, Cond.code yX1_putOnes cX1_putOnes 2 none, Cond.methodLink RX1 83 yX2_expectedX, Cond.instanceMethod yX2_expectedX, Cond.selects RX2 yX2_expectedX yX2_expectedX, Cond.initialized RX2, Cond.code yX2_expectedX cX2_expectedX 2 (some .int), Cond.fieldLink RX2 15 "GreyReel$Picture" "vx" "[I", Cond.static yX5_isFirstOfBand, Cond.initialized RX5, Cond.code yX5_isFirstOfBand cX5_isFirstOfBand 1 (some .boolean), Cond.methodLink RX1 86 yX1_writeSigned]
def wsX1_write_r3 : List Cond := [Cond.instanceMethod yX1_writeSigned, Cond.selects RX1 yX1_writeSigned yX1_writeSigned, Cond.code yX1_writeSigned cX1_writeSigned 4 none, Cond.static yX5_folded, Cond.code yX5_folded cX5_folded 1 (some .int), Cond.methodLink RX1 92 yX2_expectedY, Cond.instanceMethod yX2_expectedY, Cond.selects RX2 yX2_expectedY yX2_expectedY, Cond.code yX2_expectedY cX2_expectedY 2 (some .int), Cond.fieldLink RX2 18 "GreyReel$Picture" "vy" "[I", Cond.methodLink RX1 98 yX1_writeLevels, Cond.instanceMethod yX1_writeLevels, Cond.selects RX1 yX1_writeLevels yX1_writeLevels, Cond.code yX1_writeLevels cX1_writeLevels 6 none, Cond.methodLink RX1 107 yX1_writeNumber, Cond.instanceMethod yX1_writeNumber, Cond.selects RX1 yX1_writeNumber yX1_writeNumber, Cond.code yX1_writeNumber cX1_writeNumber 4 none, Cond.methodLink RX1 52 yX2_bytesIn, Cond.instanceMethod yX2_bytesIn, Cond.selects RX2 yX2_bytesIn yX2_bytesIn, Cond.code yX2_bytesIn cX2_bytesIn 2 (some .int), Cond.fieldLink RX2 30 "GreyReel$Picture" "usedBits" "[I"]
def wsX1_write : List Cond := .code yX1_write cX1_write 5 none :: ((wsX1_write_r1 ++ (wsX1_write_r2 ++ wsX1_write_r3)) ++ wsX10 ++ wsX20)
def wsX2_init : List Cond := .code yX2_init cX2_init 1 none :: ([.methodLink RX2 3 objectInit, .instanceMethod objectInit, .code objectInit ⟨#[0xb1]⟩ 1 none, .arrayClass .int, .fieldLink RX2 9 "GreyReel$Picture" "kind" "[I", .fieldLink RX2 15 "GreyReel$Picture" "vx" "[I", .fieldLink RX2 18 "GreyReel$Picture" "vy" "[I", .fieldLink RX2 21 "GreyReel$Picture" "price" "[I", .fieldLink RX2 24 "GreyReel$Picture" "level" "[I", .fieldLink RX2 27 "GreyReel$Picture" "result" "[I", .fieldLink RX2 30 "GreyReel$Picture" "usedBits" "[I", .arrayClass .boolean, .fieldLink RX2 33 "GreyReel$Picture" "got" "[Z", .fieldLink RX2 37 "GreyReel$Picture" "row" "[I", .fieldLink RX2 40 "GreyReel$Picture" "number" "I", .fieldLink RX2 44 "GreyReel$Picture" "q" "I", .fieldLink RX2 47 "GreyReel$Picture" "error" "I", .fieldLink RX2 50 "GreyReel$Picture" "isKeyPicture" "Z", .fieldLink RX2 54 "GreyReel$Picture" "isSmoothed" "Z"] ++ wsX20)
def wsX2_firstByteOf : List Cond := .code yX2_firstByteOf cX2_firstByteOf 4 (some .int) :: ([.methodLink RX2 57 yX2_bytesIn, .instanceMethod yX2_bytesIn, .selects RX2 yX2_bytesIn yX2_bytesIn, .initialized RX2, .code yX2_bytesIn cX2_bytesIn 2 (some .int), .fieldLink RX2 30 "GreyReel$Picture" "usedBits" "[I"] ++ wsX20)
def wsX2_bytesInAll : List Cond := .code yX2_bytesInAll cX2_bytesInAll 1 (some .int) :: ([.methodLink RX2 61 yX2_firstByteOf, .instanceMethod yX2_firstByteOf, .selects RX2 yX2_firstByteOf yX2_firstByteOf, .initialized RX2, .code yX2_firstByteOf cX2_firstByteOf 4 (some .int), .methodLink RX2 57 yX2_bytesIn, .instanceMethod yX2_bytesIn, .selects RX2 yX2_bytesIn yX2_bytesIn, .code yX2_bytesIn cX2_bytesIn 2 (some .int), .fieldLink RX2 30 "GreyReel$Picture" "usedBits" "[I"] ++ wsX20)
def wsX2_levelsNotZero : List Cond := .code yX2_levelsNotZero cX2_levelsNotZero 4 (some .int) :: ([.fieldLink RX2 24 "GreyReel$Picture" "level" "[I"] ++ wsX20)
def wsX2_blocksOf : List Cond := .code yX2_blocksOf cX2_blocksOf 4 (some .int) :: ([.fieldLink RX2 9 "GreyReel$Picture" "kind" "[I"] ++ wsX20)
def wsX2_freshBlocks : List Cond := .code yX2_freshBlocks cX2_freshBlocks 1 (some .int) :: ([.methodLink RX2 64 yX2_blocksOf, .instanceMethod yX2_blocksOf, .selects RX2 yX2_blocksOf yX2_blocksOf, .initialized RX2, .code yX2_blocksOf cX2_blocksOf 4 (some .int), .fieldLink RX2 9 "GreyReel$Picture" "kind" "[I"] ++ wsX20)
def wsX2_bandsGot : List Cond := .code yX2_bandsGot cX2_bandsGot 3 (some .int) :: ([.fieldLink RX2 33 "GreyReel$Picture" "got" "[Z"] ++ wsX20)
def wsX2_digestPacket : List Cond := .code yX2_digestPacket cX2_digestPacket 8 (some .long) :: ([.constantLong RX2 71 (31), .fieldLink RX2 30 "GreyReel$Picture" "usedBits" "[I", .fieldLink RX2 33 "GreyReel$Picture" "got" "[Z", .fieldLink RX2 37 "GreyReel$Picture" "row" "[I", .methodLink RX2 57 yX2_bytesIn, .instanceMethod yX2_bytesIn, .selects RX2 yX2_bytesIn yX2_bytesIn, .initialized RX2, .code yX2_bytesIn cX2_bytesIn 2 (some .int), .methodLink RX2 61 yX2_firstByteOf, .instanceMethod yX2_firstByteOf, .selects RX2 yX2_firstByteOf yX2_firstByteOf, .code yX2_firstByteOf cX2_firstByteOf 4 (some .int)] ++ wsX20)
def wsX2_digestOn_r1 : List Cond := [Cond.constantLong RX2 71 (31), Cond.fieldLink RX2 50 "GreyReel$Picture" "isKeyPicture" "Z", Cond.fieldLink RX2 44 "GreyReel$Picture" "q" "I", Cond.fieldLink RX2 47 "GreyReel$Picture" "error" "I", Cond.fieldLink RX2 9 "GreyReel$Picture" "kind" "[I", Cond.fieldLink RX2 15 "GreyReel$Picture" "vx" "[I", Cond.fieldLink RX2 18 "GreyReel$Picture" "vy" "[I", Cond.methodLink RX2 73 yX2_levelsNotZero, Cond.instanceMethod yX2_levelsNotZero, Cond.selects RX2 yX2_levelsNotZero yX2_levelsNotZero, Cond.initialized RX2, Cond.code yX2_levelsNotZero cX2_levelsNotZero 4 (some .int), Cond.fieldLink RX2 24 "GreyReel$Picture" "level" "[I", Cond.methodLink RX2 76 yX2_digestPacket, Cond.instanceMethod yX2_digestPacket, Cond.selects RX2 yX2_digestPacket yX2_digestPacket, Cond.code yX2_digestPacket cX2_digestPacket 8 (some .long), Cond.fieldLink RX2 30 "GreyReel$Picture" "usedBits" "[I", Cond.fieldLink RX2 33 "GreyReel$Picture" "got" "[Z", Cond.fieldLink RX2 37 "GreyReel$Picture" "row" "[I", Cond.methodLink RX2 57 yX2_bytesIn, Cond.instanceMethod yX2_bytesIn, Cond.selects RX2 yX2_bytesIn yX2_bytesIn, Cond.code yX2_bytesIn cX2_bytesIn 2 (some .int)]
def wsX2_digestOn_r2 : List Cond := [Cond.methodLink RX2 61 yX2_firstByteOf, Cond.instanceMethod yX2_firstByteOf, Cond.selects RX2 yX2_firstByteOf yX2_firstByteOf, Cond.code yX2_firstByteOf cX2_firstByteOf 4 (some .int)]
def wsX2_digestOn : List Cond := .code yX2_digestOn cX2_digestOn 6 (some .long) :: ((wsX2_digestOn_r1 ++ wsX2_digestOn_r2) ++ wsX20)
def wsX3_lookAhead : List Cond := .code yX3_lookAhead cX3_lookAhead 5 none :: ([.fieldLink RX3 11 "GreyReel$Studio" "ahead" "[I", .static yX5_onRow, .initialized RX5, .code yX5_onRow cX5_onRow 2 (some .int), .methodLink RX5 92 Lib.Math.min.name, .static Lib.Math.min.name, .initialized "java/lang/Math", .code Lib.Math.min.name Lib.Math.min.code 2 (some .int), .methodLink RX5 86 Lib.Math.max.name, .static Lib.Math.max.name, .code Lib.Math.max.name Lib.Math.max.code 2 (some .int)] ++ wsX30)
def wsX3_makeForetold : List Cond := .code yX3_makeForetold cX3_makeForetold 3 none :: ([.fieldLink RX3 18 "GreyReel$Studio" "made" "[I", .fieldLink RX3 21 "GreyReel$Studio" "foretold" "[I", .methodLink RX3 74 yX3_pointOf, .static yX3_pointOf, .initialized RX3, .code yX3_pointOf cX3_pointOf 2 (some .int), .static yX5_firstPointOf, .initialized RX5, .code yX5_firstPointOf cX5_firstPointOf 1 (some .int)] ++ wsX30)
def wsX4_init : List Cond := .code yX4_init cX4_init 1 none :: ([.methodLink RX4 3 objectInit, .instanceMethod objectInit, .code objectInit ⟨#[0xb1]⟩ 1 none, .classLink RX4 9 RX3, .instantiable RX3 4, .initialized RX3, .fieldLink RX4 12 "GreyReel$Viewer" "studio" "LGreyReel$Studio;", .arrayClass .int, .fieldLink RX4 18 "GreyReel$Viewer" "screen" "[I", .fieldLink RX4 22 "GreyReel$Viewer" "shownPictures" "I", .instanceMethod yX3_init, .code yX3_init cX3_init 1 none, .methodLink RX3 5 objectInit, .fieldLink RX3 11 "GreyReel$Studio" "ahead" "[I", .fieldLink RX3 15 "GreyReel$Studio" "quarterNumbers" "[I", .fieldLink RX3 18 "GreyReel$Studio" "made" "[I", .fieldLink RX3 21 "GreyReel$Studio" "foretold" "[I", .methodLink RX4 26 yJ7_fill_53178, .static yJ7_fill_53178, .initialized RJ7, .code yJ7_fill_53178 cJ7_fill_53178 4 none] ++ wsX30 ++ wsX40)
def wsX4_conceal_r1 : List Cond := [Cond.fieldLink RX4 36 "GreyReel$Picture" "got" "[Z", Cond.fieldLink RX4 45 "GreyReel$Picture" "vx" "[I", Cond.fieldLink RX4 48 "GreyReel$Picture" "vy" "[I", Cond.fieldLink RX4 12 "GreyReel$Viewer" "studio" "LGreyReel$Studio;", Cond.methodLink RX4 51 yX3_foretell, Cond.instanceMethod yX3_foretell, Cond.selects RX3 yX3_foretell yX3_foretell, Cond.initialized RX3, Cond.code yX3_foretell cX3_foretell 5 none, Cond.methodLink RX3 28 yX3_foretellMoved, Cond.instanceMethod yX3_foretellMoved, Cond.selects RX3 yX3_foretellMoved yX3_foretellMoved, Cond.code yX3_foretellMoved cX3_foretellMoved 9 none, Cond.fieldLink RX3 21 "GreyReel$Studio" "foretold" "[I", Cond.methodLink RX3 42 yX3_startAhead, Cond.instanceMethod yX3_startAhead, Cond.selects RX3 yX3_startAhead yX3_startAhead, Cond.code yX3_startAhead cX3_startAhead 8 (some .int), Cond.methodLink RX3 46 yX3_between, Cond.instanceMethod yX3_between, Cond.selects RX3 yX3_between yX3_between, Cond.code yX3_between cX3_between 6 (some .int), Cond.fieldLink RX3 11 "GreyReel$Studio" "ahead" "[I", Cond.methodLink RX3 32 yX3_foretellFlat]
def wsX4_conceal_r2 : List Cond := [Cond.instanceMethod yX3_foretellFlat, Cond.selects RX3 yX3_foretellFlat yX3_foretellFlat, Cond.code yX3_foretellFlat cX3_foretellFlat 6 none, Cond.fieldLink RX3 18 "GreyReel$Studio" "made" "[I", Cond.static yX5_isFirstOfBand, Cond.initialized RX5, Cond.code yX5_isFirstOfBand cX5_isFirstOfBand 1 (some .boolean), Cond.static yX5_firstPointOf, Cond.code yX5_firstPointOf cX5_firstPointOf 1 (some .int), Cond.methodLink RX3 62 yJ7_fill_53178, Cond.static yJ7_fill_53178, Cond.initialized RJ7, Cond.code yJ7_fill_53178 cJ7_fill_53178 4 none, Cond.methodLink RX3 36 yX3_foretellLeft, Cond.instanceMethod yX3_foretellLeft, Cond.selects RX3 yX3_foretellLeft yX3_foretellLeft, Cond.code yX3_foretellLeft cX3_foretellLeft 4 none, Cond.methodLink RX3 39 yX3_foretellTrend, Cond.instanceMethod yX3_foretellTrend, Cond.selects RX3 yX3_foretellTrend yX3_foretellTrend, Cond.code yX3_foretellTrend cX3_foretellTrend 6 none, Cond.static yX5_clip, Cond.code yX5_clip cX5_clip 1 (some .int), Cond.methodLink RX4 81 yX3_makeForetold]
def wsX4_conceal_r3 : List Cond := [Cond.instanceMethod yX3_makeForetold, Cond.selects RX3 yX3_makeForetold yX3_makeForetold, Cond.code yX3_makeForetold cX3_makeForetold 3 none, Cond.methodLink RX3 74 yX3_pointOf, Cond.static yX3_pointOf, Cond.code yX3_pointOf cX3_pointOf 2 (some .int)]
def wsX4_conceal : List Cond := .code yX4_conceal cX4_conceal 7 none :: ((wsX4_conceal_r1 ++ (wsX4_conceal_r2 ++ wsX4_conceal_r3)) ++ wsX20 ++ wsX40 ++ wsX30)
def wsX4_make_r1 : List Cond := [Cond.fieldLink RX4 12 "GreyReel$Viewer" "studio" "LGreyReel$Studio;", Cond.fieldLink RX4 18 "GreyReel$Viewer" "screen" "[I", Cond.fieldLink RX4 36 "GreyReel$Picture" "got" "[Z", Cond.fieldLink RX4 42 "GreyReel$Picture" "kind" "[I", Cond.fieldLink RX4 45 "GreyReel$Picture" "vx" "[I", Cond.fieldLink RX4 48 "GreyReel$Picture" "vy" "[I", Cond.fieldLink RX4 55 "GreyReel$Picture" "q" "I", Cond.fieldLink RX4 58 "GreyReel$Picture" "level" "[I", Cond.fieldLink RX4 69 "GreyReel$Picture" "isSmoothed" "Z", Cond.methodLink RX4 32 yX3_lookAhead, Cond.instanceMethod yX3_lookAhead, Cond.selects RX3 yX3_lookAhead yX3_lookAhead, Cond.initialized RX3, Cond.code yX3_lookAhead cX3_lookAhead 5 none, Cond.fieldLink RX3 11 "GreyReel$Studio" "ahead" "[I", Cond.static yX5_onRow, Cond.initialized RX5, Cond.code yX5_onRow cX5_onRow 2 (some .int), Cond.methodLink RX5 92 Lib.Math.min.name, Cond.static Lib.Math.min.name, Cond.initialized "java/lang/Math", Cond.code Lib.Math.min.name Lib.Math.min.code 2 (some .int), Cond.methodLink RX5 86 Lib.Math.max.name, Cond.static Lib.Math.max.name]
def wsX4_make_r2 : List Cond := [Cond.code Lib.Math.max.name Lib.Math.max.code 2 (some .int), Cond.methodLink RX4 51 yX3_foretell, Cond.instanceMethod yX3_foretell, Cond.selects RX3 yX3_foretell yX3_foretell, Cond.code yX3_foretell cX3_foretell 5 none, Cond.methodLink RX3 28 yX3_foretellMoved, Cond.instanceMethod yX3_foretellMoved, Cond.selects RX3 yX3_foretellMoved yX3_foretellMoved, Cond.code yX3_foretellMoved cX3_foretellMoved 9 none, Cond.fieldLink RX3 21 "GreyReel$Studio" "foretold" "[I", Cond.methodLink RX3 42 yX3_startAhead, Cond.instanceMethod yX3_startAhead, Cond.selects RX3 yX3_startAhead yX3_startAhead, Cond.code yX3_startAhead cX3_startAhead 8 (some .int), Cond.methodLink RX3 46 yX3_between, Cond.instanceMethod yX3_between, Cond.selects RX3 yX3_between yX3_between, Cond.code yX3_between cX3_between 6 (some .int), Cond.methodLink RX3 32 yX3_foretellFlat, Cond.instanceMethod yX3_foretellFlat, Cond.selects RX3 yX3_foretellFlat yX3_foretellFlat, Cond.code yX3_foretellFlat cX3_foretellFlat 6 none, Cond.fieldLink RX3 18 "GreyReel$Studio" "made" "[I", Cond.static yX5_isFirstOfBand]
def wsX4_make_r3 : List Cond := [Cond.code yX5_isFirstOfBand cX5_isFirstOfBand 1 (some .boolean), Cond.static yX5_firstPointOf, Cond.code yX5_firstPointOf cX5_firstPointOf 1 (some .int), Cond.methodLink RX3 62 yJ7_fill_53178, Cond.static yJ7_fill_53178, Cond.initialized RJ7, Cond.code yJ7_fill_53178 cJ7_fill_53178 4 none, Cond.methodLink RX3 36 yX3_foretellLeft, Cond.instanceMethod yX3_foretellLeft, Cond.selects RX3 yX3_foretellLeft yX3_foretellLeft, Cond.code yX3_foretellLeft cX3_foretellLeft 4 none, Cond.methodLink RX3 39 yX3_foretellTrend, Cond.instanceMethod yX3_foretellTrend, Cond.selects RX3 yX3_foretellTrend yX3_foretellTrend, Cond.code yX3_foretellTrend cX3_foretellTrend 6 none, Cond.static yX5_clip, Cond.code yX5_clip cX5_clip 1 (some .int), Cond.methodLink RX4 61 yX3_makeBlock, Cond.instanceMethod yX3_makeBlock, Cond.selects RX3 yX3_makeBlock yX3_makeBlock, Cond.code yX3_makeBlock cX3_makeBlock 8 none, Cond.fieldLink RX3 15 "GreyReel$Studio" "quarterNumbers" "[I", Cond.fieldLink RX3 80 "GreyReel$Studio" "ORDER" "[I", Cond.methodLink RX3 77 yX3_turnQuarter]
def wsX4_make_r4 : List Cond := [Cond.instanceMethod yX3_turnQuarter, Cond.selects RX3 yX3_turnQuarter yX3_turnQuarter, Cond.code yX3_turnQuarter cX3_turnQuarter 2 none, Cond.methodLink RX3 86 yX3_turnFour, Cond.instanceMethod yX3_turnFour, Cond.selects RX3 yX3_turnFour yX3_turnFour, Cond.code yX3_turnFour cX3_turnFour 7 none, Cond.methodLink RX3 71 yX3_placeInBlock, Cond.static yX3_placeInBlock, Cond.code yX3_placeInBlock cX3_placeInBlock 4 (some .int), Cond.methodLink RX3 74 yX3_pointOf, Cond.static yX3_pointOf, Cond.code yX3_pointOf cX3_pointOf 2 (some .int), Cond.methodLink RX4 65 yX4_conceal, Cond.instanceMethod yX4_conceal, Cond.selects RX4 yX4_conceal yX4_conceal, Cond.initialized RX4, Cond.code yX4_conceal cX4_conceal 7 none, Cond.methodLink RX4 81 yX3_makeForetold, Cond.instanceMethod yX3_makeForetold, Cond.selects RX3 yX3_makeForetold yX3_makeForetold, Cond.code yX3_makeForetold cX3_makeForetold 3 none, Cond.methodLink RX4 73 yX2_bandsGot, Cond.instanceMethod yX2_bandsGot]
def wsX4_make_r5 : List Cond := [Cond.selects RX2 yX2_bandsGot yX2_bandsGot, Cond.initialized RX2, Cond.code yX2_bandsGot cX2_bandsGot 3 (some .int), Cond.fieldLink RX2 33 "GreyReel$Picture" "got" "[Z", Cond.methodLink RX4 77 yX3_smooth, Cond.instanceMethod yX3_smooth, Cond.selects RX3 yX3_smooth yX3_smooth, Cond.code yX3_smooth cX3_smooth 4 none, Cond.methodLink RX3 90 yX3_smoothAcross, Cond.instanceMethod yX3_smoothAcross, Cond.selects RX3 yX3_smoothAcross yX3_smoothAcross, Cond.code yX3_smoothAcross cX3_smoothAcross 10 none, Cond.methodLink RX3 53 Lib.Math.abs.name, Cond.static Lib.Math.abs.name, Cond.code Lib.Math.abs.name Lib.Math.abs.code 1 (some .int)]
def wsX4_make : List Cond := .code yX4_make cX4_make 3 none :: ((wsX4_make_r1 ++ (wsX4_make_r2 ++ (wsX4_make_r3 ++ (wsX4_make_r4 ++ wsX4_make_r5)))) ++ wsX40 ++ wsX20 ++ wsX30)
def wsX4_takeMade : List Cond := .code yX4_takeMade cX4_takeMade 1 none :: ([.fieldLink RX4 12 "GreyReel$Viewer" "studio" "LGreyReel$Studio;", .fieldLink RX4 84 "GreyReel$Studio" "made" "[I", .fieldLink RX4 18 "GreyReel$Viewer" "screen" "[I", .methodLink RX4 87 arraycopyName, .native arraycopyName, .static arraycopyName, .initialized "java/lang/System", .fieldLink RX4 22 "GreyReel$Viewer" "shownPictures" "I"] ++ wsX40 ++ wsX30)
def wsX5_init_r1 : List Cond := [Cond.methodLink RX5 3 objectInit, Cond.instanceMethod objectInit, Cond.code objectInit ⟨#[0xb1]⟩ 1 none, Cond.arrayClass .int, Cond.fieldLink RX5 9 "GreyReel" "canvas" "[I", Cond.classLink RX5 13 RX2, Cond.fieldLink RX5 15 "GreyReel" "reel" "[LGreyReel$Picture;", Cond.classLink RX5 19 RX0, Cond.instantiable RX0 5, Cond.initialized RX0, Cond.fieldLink RX5 22 "GreyReel" "coder" "LGreyReel$Coder;", Cond.classLink RX5 26 RX1, Cond.instantiable RX1 4, Cond.initialized RX1, Cond.fieldLink RX5 29 "GreyReel" "writer" "LGreyReel$PacketWriter;", Cond.classLink RX5 33 RX4, Cond.instantiable RX4 3, Cond.initialized RX4, Cond.fieldLink RX5 36 "GreyReel" "viewer" "LGreyReel$Viewer;", Cond.fieldLink RX5 40 "GreyReel" "canvasBefore" "[I", Cond.instantiable RX2 14, Cond.initialized RX2, Cond.fieldLink RX5 44 "GreyReel" "draft" "LGreyReel$Picture;", Cond.fieldLink RX5 48 "GreyReel" "coded" "I"]
def wsX5_init_r2 : List Cond := [Cond.fieldLink RX5 52 "GreyReel" "deltasBehindKey" "I", Cond.fieldLink RX5 55 "GreyReel" "nextStep" "I", Cond.fieldLink RX5 58 "GreyReel" "bytesWanted" "I", Cond.fieldLink RX5 61 "GreyReel" "keyInterval" "I", Cond.fieldLink RX5 64 "GreyReel" "isSmoothing" "Z", Cond.fieldLink RX5 68 "GreyReel" "isKeyAsked" "Z", Cond.instanceMethod yX0_init, Cond.code yX0_init cX0_init 1 none, Cond.methodLink RX0 3 objectInit, Cond.classLink RX0 9 RX3, Cond.instantiable RX3 4, Cond.initialized RX3, Cond.fieldLink RX0 12 "GreyReel$Coder" "studio" "LGreyReel$Studio;", Cond.fieldLink RX0 18 "GreyReel$Coder" "bestKind" "I", Cond.fieldLink RX0 22 "GreyReel$Coder" "bestX" "I", Cond.fieldLink RX0 25 "GreyReel$Coder" "bestY" "I", Cond.fieldLink RX0 28 "GreyReel$Coder" "bestPrice" "I", Cond.instanceMethod yX3_init, Cond.code yX3_init cX3_init 1 none, Cond.methodLink RX3 5 objectInit, Cond.fieldLink RX3 11 "GreyReel$Studio" "ahead" "[I", Cond.fieldLink RX3 15 "GreyReel$Studio" "quarterNumbers" "[I", Cond.fieldLink RX3 18 "GreyReel$Studio" "made" "[I", Cond.fieldLink RX3 21 "GreyReel$Studio" "foretold" "[I"]
def wsX5_init_r3 : List Cond := [Cond.instanceMethod yX1_init, Cond.code yX1_init cX1_init 1 none, Cond.methodLink RX1 3 objectInit, Cond.fieldLink RX1 11 "GreyReel$PacketWriter" "row" "[I", Cond.fieldLink RX1 15 "GreyReel$PacketWriter" "kindRow" "[I", Cond.fieldLink RX1 18 "GreyReel$PacketWriter" "mean" "[I", Cond.fieldLink RX1 21 "GreyReel$PacketWriter" "bitsWritten" "I", Cond.methodLink RX5 35 yX4_init, Cond.instanceMethod yX4_init, Cond.code yX4_init cX4_init 1 none, Cond.methodLink RX4 3 objectInit, Cond.classLink RX4 9 RX3, Cond.fieldLink RX4 12 "GreyReel$Viewer" "studio" "LGreyReel$Studio;", Cond.fieldLink RX4 18 "GreyReel$Viewer" "screen" "[I", Cond.fieldLink RX4 22 "GreyReel$Viewer" "shownPictures" "I", Cond.methodLink RX4 26 yJ7_fill_53178, Cond.static yJ7_fill_53178, Cond.initialized RJ7, Cond.code yJ7_fill_53178 cJ7_fill_53178 4 none, Cond.instanceMethod yX2_init, Cond.code yX2_init cX2_init 1 none, Cond.methodLink RX2 3 objectInit, Cond.fieldLink RX2 9 "GreyReel$Picture" "kind" "[I", Cond.fieldLink RX2 15 "GreyReel$Picture" "vx" "[I"]
def wsX5_init_r4 : List Cond := [Cond.fieldLink RX2 18 "GreyReel$Picture" "vy" "[I", Cond.fieldLink RX2 21 "GreyReel$Picture" "price" "[I", Cond.fieldLink RX2 24 "GreyReel$Picture" "level" "[I", Cond.fieldLink RX2 27 "GreyReel$Picture" "result" "[I", Cond.fieldLink RX2 30 "GreyReel$Picture" "usedBits" "[I", Cond.arrayClass .boolean, Cond.fieldLink RX2 33 "GreyReel$Picture" "got" "[Z", Cond.fieldLink RX2 37 "GreyReel$Picture" "row" "[I", Cond.fieldLink RX2 40 "GreyReel$Picture" "number" "I", Cond.fieldLink RX2 44 "GreyReel$Picture" "q" "I", Cond.fieldLink RX2 47 "GreyReel$Picture" "error" "I", Cond.fieldLink RX2 50 "GreyReel$Picture" "isKeyPicture" "Z", Cond.fieldLink RX2 54 "GreyReel$Picture" "isSmoothed" "Z"]
def wsX5_init : List Cond := .code yX5_init cX5_init 1 none :: ((wsX5_init_r1 ++ (wsX5_init_r2 ++ (wsX5_init_r3 ++ wsX5_init_r4))) ++ wsX50 ++ wsX00 ++ wsX10 ++ wsX40 ++ wsX20 ++ wsX30)
def wsX5_fill : List Cond := .code yX5_fill cX5_fill 4 (some .int) :: ([.classLink RX5 75 "java/lang/IllegalArgumentException", .initialized "java/lang/IllegalArgumentException", .fieldLink RX5 9 "GreyReel" "canvas" "[I", .methodLink RX5 71 yX5_isWithin, .static yX5_isWithin, .initialized RX5, .code yX5_isWithin cX5_isWithin 3 (some .boolean)] ++ wsX50 ++ (vx_atS RX5 79 "java/lang/IllegalArgumentException" ["java/lang/RuntimeException", "java/lang/Exception"]).filter goodWord)
def wsX5_box : List Cond := .code yX5_box cX5_box 9 (some .int) :: ([.classLink RX5 75 "java/lang/IllegalArgumentException", .initialized "java/lang/IllegalArgumentException", .methodLink RX5 86 Lib.Math.max.name, .static Lib.Math.max.name, .initialized "java/lang/Math", .code Lib.Math.max.name Lib.Math.max.code 2 (some .int), .methodLink RX5 92 Lib.Math.min.name, .static Lib.Math.min.name, .code Lib.Math.min.name Lib.Math.min.code 2 (some .int), .fieldLink RX5 9 "GreyReel" "canvas" "[I", .methodLink RX5 71 yX5_isWithin, .static yX5_isWithin, .initialized RX5, .code yX5_isWithin cX5_isWithin 3 (some .boolean)] ++ wsX50 ++ (vx_atS RX5 79 "java/lang/IllegalArgumentException" ["java/lang/RuntimeException", "java/lang/Exception"]).filter goodWord)
def wsX5_ramp : List Cond := .code yX5_ramp cX5_ramp 7 (some .int) :: ([.classLink RX5 75 "java/lang/IllegalArgumentException", .initialized "java/lang/IllegalArgumentException", .fieldLink RX5 9 "GreyReel" "canvas" "[I", .methodLink RX5 71 yX5_isWithin, .static yX5_isWithin, .initialized RX5, .code yX5_isWithin cX5_isWithin 3 (some .boolean), .methodLink RX5 99 yX5_clip, .static yX5_clip, .code yX5_clip cX5_clip 1 (some .int)] ++ wsX50 ++ (vx_atS RX5 79 "java/lang/IllegalArgumentException" ["java/lang/RuntimeException", "java/lang/Exception"]).filter goodWord)
def wsX5_noise : List Cond := .code yX5_noise cX5_noise 5 (some .int) :: ([.classLink RX5 75 "java/lang/IllegalArgumentException", .initialized "java/lang/IllegalArgumentException", .constant RX5 103 (65535), .constant RX5 108 (65536), .fieldLink RX5 9 "GreyReel" "canvas" "[I", .methodLink RX5 71 yX5_isWithin, .static yX5_isWithin, .initialized RX5, .code yX5_isWithin cX5_isWithin 3 (some .boolean), .methodLink RX5 99 yX5_clip, .static yX5_clip, .code yX5_clip cX5_clip 1 (some .int)] ++ wsX50 ++ (vx_atS RX5 79 "java/lang/IllegalArgumentException" ["java/lang/RuntimeException", "java/lang/Exception"]).filter goodWord)
def wsX5_shift : List Cond := .code yX5_shift cX5_shift 7 (some .int) :: ([.classLink RX5 75 "java/lang/IllegalArgumentException", .initialized "java/lang/IllegalArgumentException", .fieldLink RX5 9 "GreyReel" "canvas" "[I", .fieldLink RX5 40 "GreyReel" "canvasBefore" "[I", .methodLink RX5 111 arraycopyName, .native arraycopyName, .static arraycopyName, .initialized "java/lang/System", .methodLink RX5 71 yX5_isWithin, .static yX5_isWithin, .initialized RX5, .code yX5_isWithin cX5_isWithin 3 (some .boolean), .methodLink RX5 117 yX5_onRow, .static yX5_onRow, .code yX5_onRow cX5_onRow 2 (some .int), .methodLink RX5 92 Lib.Math.min.name, .static Lib.Math.min.name, .initialized "java/lang/Math", .code Lib.Math.min.name Lib.Math.min.code 2 (some .int), .methodLink RX5 86 Lib.Math.max.name, .static Lib.Math.max.name, .code Lib.Math.max.name Lib.Math.max.code 2 (some .int)] ++ wsX50 ++ (vx_atS RX5 79 "java/lang/IllegalArgumentException" ["java/lang/RuntimeException", "java/lang/Exception"]).filter goodWord)
def wsX5_setStep : List Cond := .code yX5_setStep cX5_setStep 3 (some .int) :: ([.classLink RX5 75 "java/lang/IllegalArgumentException", .initialized "java/lang/IllegalArgumentException", .fieldLink RX5 55 "GreyReel" "nextStep" "I", .methodLink RX5 71 yX5_isWithin, .static yX5_isWithin, .initialized RX5, .code yX5_isWithin cX5_isWithin 3 (some .boolean)] ++ wsX50 ++ (vx_atS RX5 79 "java/lang/IllegalArgumentException" ["java/lang/RuntimeException", "java/lang/Exception"]).filter goodWord)
def wsX5_setTarget : List Cond := .code yX5_setTarget cX5_setTarget 3 (some .int) :: ([.classLink RX5 75 "java/lang/IllegalArgumentException", .initialized "java/lang/IllegalArgumentException", .fieldLink RX5 58 "GreyReel" "bytesWanted" "I", .methodLink RX5 71 yX5_isWithin, .static yX5_isWithin, .initialized RX5, .code yX5_isWithin cX5_isWithin 3 (some .boolean)] ++ wsX50 ++ (vx_atS RX5 79 "java/lang/IllegalArgumentException" ["java/lang/RuntimeException", "java/lang/Exception"]).filter goodWord)
def wsX5_setSmoothing : List Cond := .code yX5_setSmoothing cX5_setSmoothing 3 (some .boolean) :: ([.fieldLink RX5 64 "GreyReel" "isSmoothing" "Z"] ++ wsX50)
def wsX5_isKeyDue : List Cond := .code yX5_isKeyDue cX5_isKeyDue 1 (some .boolean) :: ([.fieldLink RX5 48 "GreyReel" "coded" "I", .fieldLink RX5 68 "GreyReel" "isKeyAsked" "Z", .fieldLink RX5 52 "GreyReel" "deltasBehindKey" "I", .fieldLink RX5 61 "GreyReel" "keyInterval" "I"] ++ wsX50)
def wsX5_askKey : List Cond := .code yX5_askKey cX5_askKey 2 (some .boolean) :: ([.fieldLink RX5 68 "GreyReel" "isKeyAsked" "Z", .methodLink RX5 129 yX5_isKeyDue, .instanceMethod yX5_isKeyDue, .selects RX5 yX5_isKeyDue yX5_isKeyDue, .initialized RX5, .code yX5_isKeyDue cX5_isKeyDue 1 (some .boolean), .fieldLink RX5 48 "GreyReel" "coded" "I", .fieldLink RX5 52 "GreyReel" "deltasBehindKey" "I", .fieldLink RX5 61 "GreyReel" "keyInterval" "I"] ++ wsX50)
def wsX5_refuseIfFull : List Cond := .code yX5_refuseIfFull cX5_refuseIfFull 1 none :: ([.classLink RX5 214 "java/lang/IllegalStateException", .initialized "java/lang/IllegalStateException", .fieldLink RX5 48 "GreyReel" "coded" "I"] ++ wsX50 ++ (vx_atS RX5 218 "java/lang/IllegalStateException" ["java/lang/RuntimeException", "java/lang/Exception"]).filter goodWord)
def wsX5_pictureOrNull : List Cond := .code yX5_pictureOrNull cX5_pictureOrNull 2 (some (.object "GreyReel$Picture")) :: ([.fieldLink RX5 48 "GreyReel" "coded" "I", .fieldLink RX5 15 "GreyReel" "reel" "[LGreyReel$Picture;"] ++ wsX50)
def wsX5_draftNext_r1 : List Cond := [Cond.fieldLink RX5 48 "GreyReel" "coded" "I", Cond.fieldLink RX5 22 "GreyReel" "coder" "LGreyReel$Coder;", Cond.fieldLink RX5 281 "GreyReel$Coder" "studio" "LGreyReel$Studio;", Cond.fieldLink RX5 186 "GreyReel$Picture" "result" "[I", Cond.fieldLink RX5 44 "GreyReel" "draft" "LGreyReel$Picture;", Cond.fieldLink RX5 286 "GreyReel$Picture" "number" "I", Cond.fieldLink RX5 165 "GreyReel$Picture" "q" "I", Cond.fieldLink RX5 64 "GreyReel" "isSmoothing" "Z", Cond.fieldLink RX5 289 "GreyReel$Picture" "isSmoothed" "Z", Cond.fieldLink RX5 155 "GreyReel$Picture" "isKeyPicture" "Z", Cond.fieldLink RX5 9 "GreyReel" "canvas" "[I", Cond.methodLink RX5 211 yX5_pictureOrNull, Cond.instanceMethod yX5_pictureOrNull, Cond.selects RX5 yX5_pictureOrNull yX5_pictureOrNull, Cond.initialized RX5, Cond.code yX5_pictureOrNull cX5_pictureOrNull 2 (some (.object "GreyReel$Picture")), Cond.fieldLink RX5 15 "GreyReel" "reel" "[LGreyReel$Picture;", Cond.methodLink RX5 282 yX3_lookAhead, Cond.instanceMethod yX3_lookAhead, Cond.selects RX3 yX3_lookAhead yX3_lookAhead, Cond.initialized RX3, Cond.code yX3_lookAhead cX3_lookAhead 5 none, Cond.fieldLink RX3 11 "GreyReel$Studio" "ahead" "[I", Cond.static yX5_onRow]
def wsX5_draftNext_r2 : List Cond := [Cond.code yX5_onRow cX5_onRow 2 (some .int), Cond.methodLink RX5 92 Lib.Math.min.name, Cond.static Lib.Math.min.name, Cond.initialized "java/lang/Math", Cond.code Lib.Math.min.name Lib.Math.min.code 2 (some .int), Cond.methodLink RX5 86 Lib.Math.max.name, Cond.static Lib.Math.max.name, Cond.code Lib.Math.max.name Lib.Math.max.code 2 (some .int), Cond.methodLink RX5 129 yX5_isKeyDue, Cond.instanceMethod yX5_isKeyDue, Cond.selects RX5 yX5_isKeyDue yX5_isKeyDue, Cond.code yX5_isKeyDue cX5_isKeyDue 1 (some .boolean), Cond.fieldLink RX5 68 "GreyReel" "isKeyAsked" "Z", Cond.fieldLink RX5 52 "GreyReel" "deltasBehindKey" "I", Cond.fieldLink RX5 61 "GreyReel" "keyInterval" "I", Cond.methodLink RX5 292 yX0_codeAll, Cond.instanceMethod yX0_codeAll, Cond.selects RX0 yX0_codeAll yX0_codeAll, Cond.initialized RX0, Cond.code yX0_codeAll cX0_codeAll 6 none, Cond.fieldLink RX0 35 "GreyReel$Picture" "isSmoothed" "Z", Cond.fieldLink RX0 12 "GreyReel$Coder" "studio" "LGreyReel$Studio;", Cond.fieldLink RX0 41 "GreyReel$Picture" "q" "I", Cond.fieldLink RX0 48 "GreyReel$Studio" "made" "[I"]
def wsX5_draftNext_r3 : List Cond := [Cond.fieldLink RX0 52 "GreyReel$Picture" "result" "[I", Cond.fieldLink RX0 55 "GreyReel$Picture" "error" "I", Cond.methodLink RX0 31 yX0_codeBlock, Cond.instanceMethod yX0_codeBlock, Cond.selects RX0 yX0_codeBlock yX0_codeBlock, Cond.code yX0_codeBlock cX0_codeBlock 7 none, Cond.constant RX0 58 (1048576), Cond.fieldLink RX0 28 "GreyReel$Coder" "bestPrice" "I", Cond.fieldLink RX0 59 "GreyReel$Picture" "isKeyPicture" "Z", Cond.fieldLink RX0 18 "GreyReel$Coder" "bestKind" "I", Cond.fieldLink RX0 22 "GreyReel$Coder" "bestX" "I", Cond.fieldLink RX0 25 "GreyReel$Coder" "bestY" "I", Cond.fieldLink RX0 77 "GreyReel$Picture" "level" "[I", Cond.fieldLink RX0 91 "GreyReel$Picture" "kind" "[I", Cond.fieldLink RX0 94 "GreyReel$Picture" "vx" "[I", Cond.fieldLink RX0 97 "GreyReel$Picture" "vy" "[I", Cond.fieldLink RX0 100 "GreyReel$Picture" "price" "[I", Cond.methodLink RX0 62 yX0_seekVector, Cond.instanceMethod yX0_seekVector, Cond.selects RX0 yX0_seekVector yX0_seekVector, Cond.code yX0_seekVector cX0_seekVector 8 none, Cond.methodLink RX0 107 yX0_tryVector, Cond.instanceMethod yX0_tryVector, Cond.selects RX0 yX0_tryVector yX0_tryVector]
def wsX5_draftNext_r4 : List Cond := [Cond.code yX0_tryVector cX0_tryVector 9 none, Cond.methodLink RX0 115 Lib.Math.abs.name, Cond.static Lib.Math.abs.name, Cond.code Lib.Math.abs.name Lib.Math.abs.code 1 (some .int), Cond.methodLink RX0 84 yX2_expectedX, Cond.instanceMethod yX2_expectedX, Cond.selects RX2 yX2_expectedX yX2_expectedX, Cond.initialized RX2, Cond.code yX2_expectedX cX2_expectedX 2 (some .int), Cond.fieldLink RX2 15 "GreyReel$Picture" "vx" "[I", Cond.static yX5_isFirstOfBand, Cond.code yX5_isFirstOfBand cX5_isFirstOfBand 1 (some .boolean), Cond.methodLink RX0 88 yX2_expectedY, Cond.instanceMethod yX2_expectedY, Cond.selects RX2 yX2_expectedY yX2_expectedY, Cond.code yX2_expectedY cX2_expectedY 2 (some .int), Cond.fieldLink RX2 18 "GreyReel$Picture" "vy" "[I", Cond.methodLink RX0 120 yX3_differenceMoved, Cond.instanceMethod yX3_differenceMoved, Cond.selects RX3 yX3_differenceMoved yX3_differenceMoved, Cond.code yX3_differenceMoved cX3_differenceMoved 14 (some .int), Cond.methodLink RX3 53 Lib.Math.abs.name, Cond.methodLink RX3 42 yX3_startAhead, Cond.instanceMethod yX3_startAhead]
def wsX5_draftNext_r5 : List Cond := [Cond.selects RX3 yX3_startAhead yX3_startAhead, Cond.code yX3_startAhead cX3_startAhead 8 (some .int), Cond.static yX5_firstPointOf, Cond.code yX5_firstPointOf cX5_firstPointOf 1 (some .int), Cond.methodLink RX3 46 yX3_between, Cond.instanceMethod yX3_between, Cond.selects RX3 yX3_between yX3_between, Cond.code yX3_between cX3_between 6 (some .int), Cond.methodLink RX0 124 yX0_take, Cond.instanceMethod yX0_take, Cond.selects RX0 yX0_take yX0_take, Cond.code yX0_take cX0_take 5 none, Cond.static yX5_isWithin, Cond.code yX5_isWithin cX5_isWithin 3 (some .boolean), Cond.methodLink RX0 65 yX0_tryKind, Cond.instanceMethod yX0_tryKind, Cond.selects RX0 yX0_tryKind yX0_tryKind, Cond.code yX0_tryKind cX0_tryKind 6 none, Cond.methodLink RX0 73 yX3_foretell, Cond.instanceMethod yX3_foretell, Cond.selects RX3 yX3_foretell yX3_foretell, Cond.code yX3_foretell cX3_foretell 5 none, Cond.methodLink RX3 28 yX3_foretellMoved, Cond.instanceMethod yX3_foretellMoved]
def wsX5_draftNext_r6 : List Cond := [Cond.selects RX3 yX3_foretellMoved yX3_foretellMoved, Cond.code yX3_foretellMoved cX3_foretellMoved 9 none, Cond.fieldLink RX3 21 "GreyReel$Studio" "foretold" "[I", Cond.methodLink RX3 32 yX3_foretellFlat, Cond.instanceMethod yX3_foretellFlat, Cond.selects RX3 yX3_foretellFlat yX3_foretellFlat, Cond.code yX3_foretellFlat cX3_foretellFlat 6 none, Cond.fieldLink RX3 18 "GreyReel$Studio" "made" "[I", Cond.methodLink RX3 62 yJ7_fill_53178, Cond.static yJ7_fill_53178, Cond.initialized RJ7, Cond.code yJ7_fill_53178 cJ7_fill_53178 4 none, Cond.methodLink RX3 36 yX3_foretellLeft, Cond.instanceMethod yX3_foretellLeft, Cond.selects RX3 yX3_foretellLeft yX3_foretellLeft, Cond.code yX3_foretellLeft cX3_foretellLeft 4 none, Cond.methodLink RX3 39 yX3_foretellTrend, Cond.instanceMethod yX3_foretellTrend, Cond.selects RX3 yX3_foretellTrend yX3_foretellTrend, Cond.code yX3_foretellTrend cX3_foretellTrend 6 none, Cond.static yX5_clip, Cond.code yX5_clip cX5_clip 1 (some .int), Cond.methodLink RX0 127 yX3_difference, Cond.instanceMethod yX3_difference]
def wsX5_draftNext_r7 : List Cond := [Cond.selects RX3 yX3_difference yX3_difference, Cond.code yX3_difference cX3_difference 6 (some .int), Cond.methodLink RX0 80 yX3_measure, Cond.instanceMethod yX3_measure, Cond.selects RX3 yX3_measure yX3_measure, Cond.code yX3_measure cX3_measure 10 (some .boolean), Cond.fieldLink RX3 15 "GreyReel$Studio" "quarterNumbers" "[I", Cond.fieldLink RX3 80 "GreyReel$Studio" "ORDER" "[I", Cond.methodLink RX3 71 yX3_placeInBlock, Cond.static yX3_placeInBlock, Cond.code yX3_placeInBlock cX3_placeInBlock 4 (some .int), Cond.methodLink RX3 74 yX3_pointOf, Cond.static yX3_pointOf, Cond.code yX3_pointOf cX3_pointOf 2 (some .int), Cond.methodLink RX3 77 yX3_turnQuarter, Cond.instanceMethod yX3_turnQuarter, Cond.selects RX3 yX3_turnQuarter yX3_turnQuarter, Cond.code yX3_turnQuarter cX3_turnQuarter 2 none, Cond.methodLink RX3 86 yX3_turnFour, Cond.instanceMethod yX3_turnFour, Cond.selects RX3 yX3_turnFour yX3_turnFour, Cond.code yX3_turnFour cX3_turnFour 7 none, Cond.methodLink RX3 83 yX3_levelOf, Cond.static yX3_levelOf]
def wsX5_draftNext_r8 : List Cond := [Cond.code yX3_levelOf cX3_levelOf 4 (some .int), Cond.methodLink RX0 103 yX3_makeBlock, Cond.instanceMethod yX3_makeBlock, Cond.selects RX3 yX3_makeBlock yX3_makeBlock, Cond.code yX3_makeBlock cX3_makeBlock 8 none, Cond.methodLink RX0 44 yX3_smooth, Cond.instanceMethod yX3_smooth, Cond.selects RX3 yX3_smooth yX3_smooth, Cond.code yX3_smooth cX3_smooth 4 none, Cond.methodLink RX3 90 yX3_smoothAcross, Cond.instanceMethod yX3_smoothAcross, Cond.selects RX3 yX3_smoothAcross yX3_smoothAcross, Cond.code yX3_smoothAcross cX3_smoothAcross 10 none, Cond.methodLink RX5 296 yX2_freshBlocks, Cond.instanceMethod yX2_freshBlocks, Cond.selects RX2 yX2_freshBlocks yX2_freshBlocks, Cond.code yX2_freshBlocks cX2_freshBlocks 1 (some .int), Cond.methodLink RX2 64 yX2_blocksOf, Cond.instanceMethod yX2_blocksOf, Cond.selects RX2 yX2_blocksOf yX2_blocksOf, Cond.code yX2_blocksOf cX2_blocksOf 4 (some .int), Cond.fieldLink RX2 9 "GreyReel$Picture" "kind" "[I"]
def wsX5_draftNext : List Cond := .code yX5_draftNext cX5_draftNext 3 none :: ((wsX5_draftNext_r1 ++ (wsX5_draftNext_r2 ++ (wsX5_draftNext_r3 ++ (wsX5_draftNext_r4 ++ (wsX5_draftNext_r5 ++ (wsX5_draftNext_r6 ++ (wsX5_draftNext_r7 ++ wsX5_draftNext_r8))))))) ++ wsX50 ++ wsX00 ++ wsX20 ++ wsX30)
def wsX5_steer : List Cond := .code yX5_steer cX5_steer 4 none :: ([.fieldLink RX5 58 "GreyReel" "bytesWanted" "I", .fieldLink RX5 155 "GreyReel$Picture" "isKeyPicture" "Z", .fieldLink RX5 55 "GreyReel" "nextStep" "I", .methodLink RX5 92 Lib.Math.min.name, .static Lib.Math.min.name, .initialized "java/lang/Math", .code Lib.Math.min.name Lib.Math.min.code 2 (some .int), .methodLink RX5 86 Lib.Math.max.name, .static Lib.Math.max.name, .code Lib.Math.max.name Lib.Math.max.code 2 (some .int), .methodLink RX5 144 yX2_bytesInAll, .instanceMethod yX2_bytesInAll, .selects RX2 yX2_bytesInAll yX2_bytesInAll, .initialized RX2, .code yX2_bytesInAll cX2_bytesInAll 1 (some .int), .methodLink RX2 61 yX2_firstByteOf, .instanceMethod yX2_firstByteOf, .selects RX2 yX2_firstByteOf yX2_firstByteOf, .code yX2_firstByteOf cX2_firstByteOf 4 (some .int), .methodLink RX2 57 yX2_bytesIn, .instanceMethod yX2_bytesIn, .selects RX2 yX2_bytesIn yX2_bytesIn, .code yX2_bytesIn cX2_bytesIn 2 (some .int), .fieldLink RX2 30 "GreyReel$Picture" "usedBits" "[I"] ++ wsX50 ++ wsX20)
def wsX5_code_r1 : List Cond := [Cond.fieldLink RX5 55 "GreyReel" "nextStep" "I", Cond.fieldLink RX5 29 "GreyReel" "writer" "LGreyReel$PacketWriter;", Cond.fieldLink RX5 44 "GreyReel" "draft" "LGreyReel$Picture;", Cond.fieldLink RX5 152 "GreyReel$Picture" "row" "[I", Cond.fieldLink RX5 15 "GreyReel" "reel" "[LGreyReel$Picture;", Cond.fieldLink RX5 48 "GreyReel" "coded" "I", Cond.classLink RX5 13 RX2, Cond.instantiable RX2 14, Cond.initialized RX2, Cond.fieldLink RX5 155 "GreyReel$Picture" "isKeyPicture" "Z", Cond.fieldLink RX5 52 "GreyReel" "deltasBehindKey" "I", Cond.fieldLink RX5 68 "GreyReel" "isKeyAsked" "Z", Cond.methodLink RX5 133 yX5_refuseIfFull, Cond.instanceMethod yX5_refuseIfFull, Cond.selects RX5 yX5_refuseIfFull yX5_refuseIfFull, Cond.initialized RX5, Cond.code yX5_refuseIfFull cX5_refuseIfFull 1 none, Cond.classLink RX5 214 "java/lang/IllegalStateException", Cond.initialized "java/lang/IllegalStateException", Cond.methodLink RX5 136 yX5_draftNext, Cond.instanceMethod yX5_draftNext, Cond.selects RX5 yX5_draftNext yX5_draftNext, Cond.code yX5_draftNext cX5_draftNext 3 none, Cond.fieldLink RX5 22 "GreyReel" "coder" "LGreyReel$Coder;"]
def wsX5_code_r2 : List Cond := [Cond.fieldLink RX5 281 "GreyReel$Coder" "studio" "LGreyReel$Studio;", Cond.fieldLink RX5 186 "GreyReel$Picture" "result" "[I", Cond.fieldLink RX5 286 "GreyReel$Picture" "number" "I", Cond.fieldLink RX5 165 "GreyReel$Picture" "q" "I", Cond.fieldLink RX5 64 "GreyReel" "isSmoothing" "Z", Cond.fieldLink RX5 289 "GreyReel$Picture" "isSmoothed" "Z", Cond.fieldLink RX5 9 "GreyReel" "canvas" "[I", Cond.methodLink RX5 211 yX5_pictureOrNull, Cond.instanceMethod yX5_pictureOrNull, Cond.selects RX5 yX5_pictureOrNull yX5_pictureOrNull, Cond.code yX5_pictureOrNull cX5_pictureOrNull 2 (some (.object "GreyReel$Picture")), Cond.methodLink RX5 282 yX3_lookAhead, Cond.instanceMethod yX3_lookAhead, Cond.selects RX3 yX3_lookAhead yX3_lookAhead, Cond.initialized RX3, Cond.code yX3_lookAhead cX3_lookAhead 5 none, Cond.fieldLink RX3 11 "GreyReel$Studio" "ahead" "[I", Cond.static yX5_onRow, Cond.code yX5_onRow cX5_onRow 2 (some .int), Cond.methodLink RX5 92 Lib.Math.min.name, Cond.static Lib.Math.min.name, Cond.initialized "java/lang/Math", Cond.code Lib.Math.min.name Lib.Math.min.code 2 (some .int), Cond.methodLink RX5 86 Lib.Math.max.name]
def wsX5_code_r3 : List Cond := [Cond.static Lib.Math.max.name, Cond.code Lib.Math.max.name Lib.Math.max.code 2 (some .int), Cond.methodLink RX5 129 yX5_isKeyDue, Cond.instanceMethod yX5_isKeyDue, Cond.selects RX5 yX5_isKeyDue yX5_isKeyDue, Cond.code yX5_isKeyDue cX5_isKeyDue 1 (some .boolean), Cond.fieldLink RX5 61 "GreyReel" "keyInterval" "I", Cond.methodLink RX5 292 yX0_codeAll, Cond.instanceMethod yX0_codeAll, Cond.selects RX0 yX0_codeAll yX0_codeAll, Cond.initialized RX0, Cond.code yX0_codeAll cX0_codeAll 6 none, Cond.fieldLink RX0 35 "GreyReel$Picture" "isSmoothed" "Z", Cond.fieldLink RX0 12 "GreyReel$Coder" "studio" "LGreyReel$Studio;", Cond.fieldLink RX0 41 "GreyReel$Picture" "q" "I", Cond.fieldLink RX0 48 "GreyReel$Studio" "made" "[I", Cond.fieldLink RX0 52 "GreyReel$Picture" "result" "[I", Cond.fieldLink RX0 55 "GreyReel$Picture" "error" "I", Cond.methodLink RX0 31 yX0_codeBlock, Cond.instanceMethod yX0_codeBlock, Cond.selects RX0 yX0_codeBlock yX0_codeBlock, Cond.code yX0_codeBlock cX0_codeBlock 7 none, Cond.constant RX0 58 (1048576), Cond.fieldLink RX0 28 "GreyReel$Coder" "bestPrice" "I"]
def wsX5_code_r4 : List Cond := [Cond.fieldLink RX0 59 "GreyReel$Picture" "isKeyPicture" "Z", Cond.fieldLink RX0 18 "GreyReel$Coder" "bestKind" "I", Cond.fieldLink RX0 22 "GreyReel$Coder" "bestX" "I", Cond.fieldLink RX0 25 "GreyReel$Coder" "bestY" "I", Cond.fieldLink RX0 77 "GreyReel$Picture" "level" "[I", Cond.fieldLink RX0 91 "GreyReel$Picture" "kind" "[I", Cond.fieldLink RX0 94 "GreyReel$Picture" "vx" "[I", Cond.fieldLink RX0 97 "GreyReel$Picture" "vy" "[I", Cond.fieldLink RX0 100 "GreyReel$Picture" "price" "[I", Cond.methodLink RX0 62 yX0_seekVector, Cond.instanceMethod yX0_seekVector, Cond.selects RX0 yX0_seekVector yX0_seekVector, Cond.code yX0_seekVector cX0_seekVector 8 none, Cond.methodLink RX0 107 yX0_tryVector, Cond.instanceMethod yX0_tryVector, Cond.selects RX0 yX0_tryVector yX0_tryVector, Cond.code yX0_tryVector cX0_tryVector 9 none, Cond.methodLink RX0 115 Lib.Math.abs.name, Cond.static Lib.Math.abs.name, Cond.code Lib.Math.abs.name Lib.Math.abs.code 1 (some .int), Cond.methodLink RX0 84 yX2_expectedX, Cond.instanceMethod yX2_expectedX, Cond.selects RX2 yX2_expectedX yX2_expectedX, Cond.code yX2_expectedX cX2_expectedX 2 (some .int)]
def wsX5_code_r5 : List Cond := [Cond.fieldLink RX2 15 "GreyReel$Picture" "vx" "[I", Cond.static yX5_isFirstOfBand, Cond.code yX5_isFirstOfBand cX5_isFirstOfBand 1 (some .boolean), Cond.methodLink RX0 88 yX2_expectedY, Cond.instanceMethod yX2_expectedY, Cond.selects RX2 yX2_expectedY yX2_expectedY, Cond.code yX2_expectedY cX2_expectedY 2 (some .int), Cond.fieldLink RX2 18 "GreyReel$Picture" "vy" "[I", Cond.methodLink RX0 120 yX3_differenceMoved, Cond.instanceMethod yX3_differenceMoved, Cond.selects RX3 yX3_differenceMoved yX3_differenceMoved, Cond.code yX3_differenceMoved cX3_differenceMoved 14 (some .int), Cond.methodLink RX3 53 Lib.Math.abs.name, Cond.methodLink RX3 42 yX3_startAhead, Cond.instanceMethod yX3_startAhead, Cond.selects RX3 yX3_startAhead yX3_startAhead, Cond.code yX3_startAhead cX3_startAhead 8 (some .int), Cond.static yX5_firstPointOf, Cond.code yX5_firstPointOf cX5_firstPointOf 1 (some .int), Cond.methodLink RX3 46 yX3_between, Cond.instanceMethod yX3_between, Cond.selects RX3 yX3_between yX3_between, Cond.code yX3_between cX3_between 6 (some .int), Cond.methodLink RX0 124 yX0_take]
def wsX5_code_r6 : List Cond := [Cond.instanceMethod yX0_take, Cond.selects RX0 yX0_take yX0_take, Cond.code yX0_take cX0_take 5 none, Cond.static yX5_isWithin, Cond.code yX5_isWithin cX5_isWithin 3 (some .boolean), Cond.methodLink RX0 65 yX0_tryKind, Cond.instanceMethod yX0_tryKind, Cond.selects RX0 yX0_tryKind yX0_tryKind, Cond.code yX0_tryKind cX0_tryKind 6 none, Cond.methodLink RX0 73 yX3_foretell, Cond.instanceMethod yX3_foretell, Cond.selects RX3 yX3_foretell yX3_foretell, Cond.code yX3_foretell cX3_foretell 5 none, Cond.methodLink RX3 28 yX3_foretellMoved, Cond.instanceMethod yX3_foretellMoved, Cond.selects RX3 yX3_foretellMoved yX3_foretellMoved, Cond.code yX3_foretellMoved cX3_foretellMoved 9 none, Cond.fieldLink RX3 21 "GreyReel$Studio" "foretold" "[I", Cond.methodLink RX3 32 yX3_foretellFlat, Cond.instanceMethod yX3_foretellFlat, Cond.selects RX3 yX3_foretellFlat yX3_foretellFlat, Cond.code yX3_foretellFlat cX3_foretellFlat 6 none, Cond.fieldLink RX3 18 "GreyReel$Studio" "made" "[I", Cond.methodLink RX3 62 yJ7_fill_53178]
def wsX5_code_r7 : List Cond := [Cond.static yJ7_fill_53178, Cond.initialized RJ7, Cond.code yJ7_fill_53178 cJ7_fill_53178 4 none, Cond.methodLink RX3 36 yX3_foretellLeft, Cond.instanceMethod yX3_foretellLeft, Cond.selects RX3 yX3_foretellLeft yX3_foretellLeft, Cond.code yX3_foretellLeft cX3_foretellLeft 4 none, Cond.methodLink RX3 39 yX3_foretellTrend, Cond.instanceMethod yX3_foretellTrend, Cond.selects RX3 yX3_foretellTrend yX3_foretellTrend, Cond.code yX3_foretellTrend cX3_foretellTrend 6 none, Cond.static yX5_clip, Cond.code yX5_clip cX5_clip 1 (some .int), Cond.methodLink RX0 127 yX3_difference, Cond.instanceMethod yX3_difference, Cond.selects RX3 yX3_difference yX3_difference, Cond.code yX3_difference cX3_difference 6 (some .int), Cond.methodLink RX0 80 yX3_measure, Cond.instanceMethod yX3_measure, Cond.selects RX3 yX3_measure yX3_measure, Cond.code yX3_measure cX3_measure 10 (some .boolean), Cond.fieldLink RX3 15 "GreyReel$Studio" "quarterNumbers" "[I", Cond.fieldLink RX3 80 "GreyReel$Studio" "ORDER" "[I", Cond.methodLink RX3 71 yX3_placeInBlock]
def wsX5_code_r8 : List Cond := [Cond.static yX3_placeInBlock, Cond.code yX3_placeInBlock cX3_placeInBlock 4 (some .int), Cond.methodLink RX3 74 yX3_pointOf, Cond.static yX3_pointOf, Cond.code yX3_pointOf cX3_pointOf 2 (some .int), Cond.methodLink RX3 77 yX3_turnQuarter, Cond.instanceMethod yX3_turnQuarter, Cond.selects RX3 yX3_turnQuarter yX3_turnQuarter, Cond.code yX3_turnQuarter cX3_turnQuarter 2 none, Cond.methodLink RX3 86 yX3_turnFour, Cond.instanceMethod yX3_turnFour, Cond.selects RX3 yX3_turnFour yX3_turnFour, Cond.code yX3_turnFour cX3_turnFour 7 none, Cond.methodLink RX3 83 yX3_levelOf, Cond.static yX3_levelOf, Cond.code yX3_levelOf cX3_levelOf 4 (some .int), Cond.methodLink RX0 103 yX3_makeBlock, Cond.instanceMethod yX3_makeBlock, Cond.selects RX3 yX3_makeBlock yX3_makeBlock, Cond.code yX3_makeBlock cX3_makeBlock 8 none, Cond.methodLink RX0 44 yX3_smooth, Cond.instanceMethod yX3_smooth, Cond.selects RX3 yX3_smooth yX3_smooth, Cond.code yX3_smooth cX3_smooth 4 none]
def wsX5_code_r9 : List Cond := [Cond.methodLink RX3 90 yX3_smoothAcross, Cond.instanceMethod yX3_smoothAcross, Cond.selects RX3 yX3_smoothAcross yX3_smoothAcross, Cond.code yX3_smoothAcross cX3_smoothAcross 10 none, Cond.methodLink RX5 296 yX2_freshBlocks, Cond.instanceMethod yX2_freshBlocks, Cond.selects RX2 yX2_freshBlocks yX2_freshBlocks, Cond.code yX2_freshBlocks cX2_freshBlocks 1 (some .int), Cond.methodLink RX2 64 yX2_blocksOf, Cond.instanceMethod yX2_blocksOf, Cond.selects RX2 yX2_blocksOf yX2_blocksOf, Cond.code yX2_blocksOf cX2_blocksOf 4 (some .int), Cond.fieldLink RX2 9 "GreyReel$Picture" "kind" "[I", Cond.methodLink RX5 140 yX1_write, Cond.instanceMethod yX1_write, Cond.selects RX1 yX1_write yX1_write, Cond.initialized RX1, Cond.code yX1_write cX1_write 5 none, Cond.fieldLink RX1 11 "GreyReel$PacketWriter" "row" "[I", Cond.fieldLink RX1 21 "GreyReel$PacketWriter" "bitsWritten" "I", Cond.fieldLink RX1 47 "GreyReel$Picture" "usedBits" "[I", Cond.methodLink RX1 35 yJ7_fill_53178, Cond.methodLink RX1 39 yX1_startBand, Cond.instanceMethod yX1_startBand]
def wsX5_code_r10 : List Cond := [Cond.selects RX1 yX1_startBand yX1_startBand, Cond.code yX1_startBand cX1_startBand 3 none, Cond.fieldLink RX1 15 "GreyReel$PacketWriter" "kindRow" "[I", Cond.fieldLink RX1 18 "GreyReel$PacketWriter" "mean" "[I", Cond.fieldLink RX1 56 "GreyReel$Picture" "number" "I", Cond.fieldLink RX1 63 "GreyReel$Picture" "isKeyPicture" "Z", Cond.fieldLink RX1 67 "GreyReel$Picture" "q" "I", Cond.fieldLink RX1 70 "GreyReel$Picture" "isSmoothed" "Z", Cond.methodLink RX1 59 yX1_put, Cond.instanceMethod yX1_put, Cond.selects RX1 yX1_put yX1_put, Cond.code yX1_put cX1_put 5 none, Cond.methodLink RX1 43 yX1_writeBlock, Cond.instanceMethod yX1_writeBlock, Cond.selects RX1 yX1_writeBlock yX1_writeBlock, Cond.code yX1_writeBlock cX1_writeBlock 5 none, Cond.fieldLink RX1 73 "GreyReel$Picture" "kind" "[I", Cond.fieldLink RX1 80 "GreyReel$Picture" "vx" "[I", Cond.fieldLink RX1 89 "GreyReel$Picture" "vy" "[I", Cond.fieldLink RX1 95 "GreyReel$Picture" "level" "[I", Cond.methodLink RX1 76 yX1_writeKind, Cond.instanceMethod yX1_writeKind, Cond.selects RX1 yX1_writeKind yX1_writeKind, Cond.code yX1_writeKind cX1_writeKind 4 none]
def wsX5_code_r11 : List Cond := [Cond.methodLink RX1 101 yX1_putOnes, Cond.instanceMethod yX1_putOnes, Cond.selects RX1 yX1_putOnes yX1_putOnes, Cond.code yX1_putOnes cX1_putOnes 2 none, Cond.methodLink RX1 83 yX2_expectedX, Cond.methodLink RX1 86 yX1_writeSigned, Cond.instanceMethod yX1_writeSigned, Cond.selects RX1 yX1_writeSigned yX1_writeSigned, Cond.code yX1_writeSigned cX1_writeSigned 4 none, Cond.static yX5_folded, Cond.code yX5_folded cX5_folded 1 (some .int), Cond.methodLink RX1 92 yX2_expectedY, Cond.methodLink RX1 98 yX1_writeLevels, Cond.instanceMethod yX1_writeLevels, Cond.selects RX1 yX1_writeLevels yX1_writeLevels, Cond.code yX1_writeLevels cX1_writeLevels 6 none, Cond.methodLink RX1 107 yX1_writeNumber, Cond.instanceMethod yX1_writeNumber, Cond.selects RX1 yX1_writeNumber yX1_writeNumber, Cond.code yX1_writeNumber cX1_writeNumber 4 none, Cond.methodLink RX1 52 yX2_bytesIn, Cond.instanceMethod yX2_bytesIn, Cond.selects RX2 yX2_bytesIn yX2_bytesIn, Cond.code yX2_bytesIn cX2_bytesIn 2 (some .int)]
def wsX5_code_r12 : List Cond := [Cond.fieldLink RX2 30 "GreyReel$Picture" "usedBits" "[I", Cond.methodLink RX5 144 yX2_bytesInAll, Cond.instanceMethod yX2_bytesInAll, Cond.selects RX2 yX2_bytesInAll yX2_bytesInAll, Cond.code yX2_bytesInAll cX2_bytesInAll 1 (some .int), Cond.methodLink RX2 61 yX2_firstByteOf, Cond.instanceMethod yX2_firstByteOf, Cond.selects RX2 yX2_firstByteOf yX2_firstByteOf, Cond.code yX2_firstByteOf cX2_firstByteOf 4 (some .int), Cond.methodLink RX2 57 yX2_bytesIn, Cond.methodLink RX5 148 yX1_copyOfBytes, Cond.instanceMethod yX1_copyOfBytes, Cond.selects RX1 yX1_copyOfBytes yX1_copyOfBytes, Cond.code yX1_copyOfBytes cX1_copyOfBytes 2 (some (.array .int)), Cond.methodLink RX1 29 yJ7_copyOf_59c91, Cond.static yJ7_copyOf_59c91, Cond.code yJ7_copyOf_59c91 cJ7_copyOf_59c91 3 (some (.array .int)), Cond.methodLink RJ7 316 ⟨"[I", "clone", "()Ljava/lang/Object;"⟩, Cond.sameMethod "[I" "java/lang/Object" "clone" "()Ljava/lang/Object;", Cond.native ⟨"java/lang/Object", "clone", "()Ljava/lang/Object;"⟩, Cond.instanceMethod ⟨"java/lang/Object", "clone", "()Ljava/lang/Object;"⟩, Cond.selects "[I" ⟨"[I", "clone", "()Ljava/lang/Object;"⟩ ⟨"java/lang/Object", "clone", "()Ljava/lang/Object;"⟩, Cond.classLink RJ7 317 "[I", Cond.arrayClass .int]
def wsX5_code_r13 : List Cond := [Cond.methodLink RJ7 304 Lib.Math.min.name, Cond.methodLink RJ7 150 arraycopyName, Cond.native arraycopyName, Cond.static arraycopyName, Cond.initialized "java/lang/System", Cond.instanceMethod yX2_init, Cond.code yX2_init cX2_init 1 none, Cond.methodLink RX2 3 objectInit, Cond.instanceMethod objectInit, Cond.code objectInit ⟨#[0xb1]⟩ 1 none, Cond.fieldLink RX2 21 "GreyReel$Picture" "price" "[I", Cond.fieldLink RX2 24 "GreyReel$Picture" "level" "[I", Cond.fieldLink RX2 27 "GreyReel$Picture" "result" "[I", Cond.arrayClass .boolean, Cond.fieldLink RX2 33 "GreyReel$Picture" "got" "[Z", Cond.fieldLink RX2 37 "GreyReel$Picture" "row" "[I", Cond.fieldLink RX2 40 "GreyReel$Picture" "number" "I", Cond.fieldLink RX2 44 "GreyReel$Picture" "q" "I", Cond.fieldLink RX2 47 "GreyReel$Picture" "error" "I", Cond.fieldLink RX2 50 "GreyReel$Picture" "isKeyPicture" "Z", Cond.fieldLink RX2 54 "GreyReel$Picture" "isSmoothed" "Z", Cond.methodLink RX5 158 yX5_steer, Cond.instanceMethod yX5_steer, Cond.selects RX5 yX5_steer yX5_steer]
def wsX5_code_r14 : List Cond := [Cond.code yX5_steer cX5_steer 4 none, Cond.fieldLink RX5 58 "GreyReel" "bytesWanted" "I"]
def wsX5_code : List Cond := .code yX5_code cX5_code 2 (some .int) :: ((wsX5_code_r1 ++ (wsX5_code_r2 ++ (wsX5_code_r3 ++ (wsX5_code_r4 ++ (wsX5_code_r5 ++ (wsX5_code_r6 ++ (wsX5_code_r7 ++ (wsX5_code_r8 ++ (wsX5_code_r9 ++ (wsX5_code_r10 ++ (wsX5_code_r11 ++ (wsX5_code_r12 ++ (wsX5_code_r13 ++ wsX5_code_r14))))))))))))) ++ wsX50 ++ wsX20 ++ wsX00 ++ wsX30 ++ wsX10 ++ (vx_atS RX5 218 "java/lang/IllegalStateException" ["java/lang/RuntimeException", "java/lang/Exception"]).filter goodWord)
def wsX5_pictures : List Cond := .code yX5_pictures cX5_pictures 1 (some .int) :: ([.fieldLink RX5 48 "GreyReel" "coded" "I"] ++ wsX50)
def wsX5_step : List Cond := .code yX5_step cX5_step 1 (some .int) :: ([.fieldLink RX5 55 "GreyReel" "nextStep" "I"] ++ wsX50)
def wsX5_pictureAt : List Cond := .code yX5_pictureAt cX5_pictureAt 3 (some (.object "GreyReel$Picture")) :: ([.classLink RX5 269 "java/lang/IndexOutOfBoundsException", .initialized "java/lang/IndexOutOfBoundsException", .methodLink RX5 211 yX5_pictureOrNull, .instanceMethod yX5_pictureOrNull, .selects RX5 yX5_pictureOrNull yX5_pictureOrNull, .initialized RX5, .code yX5_pictureOrNull cX5_pictureOrNull 2 (some (.object "GreyReel$Picture")), .fieldLink RX5 48 "GreyReel" "coded" "I", .fieldLink RX5 15 "GreyReel" "reel" "[LGreyReel$Picture;"] ++ wsX50 ++ (vx_atS RX5 273 "java/lang/IndexOutOfBoundsException" ["java/lang/RuntimeException", "java/lang/Exception"]).filter goodWord)
def wsX5_isKey : List Cond := .code yX5_isKey cX5_isKey 2 (some .boolean) :: ([.fieldLink RX5 155 "GreyReel$Picture" "isKeyPicture" "Z", .methodLink RX5 161 yX5_pictureAt, .instanceMethod yX5_pictureAt, .selects RX5 yX5_pictureAt yX5_pictureAt, .initialized RX5, .code yX5_pictureAt cX5_pictureAt 3 (some (.object "GreyReel$Picture")), .classLink RX5 269 "java/lang/IndexOutOfBoundsException", .initialized "java/lang/IndexOutOfBoundsException", .methodLink RX5 211 yX5_pictureOrNull, .instanceMethod yX5_pictureOrNull, .selects RX5 yX5_pictureOrNull yX5_pictureOrNull, .code yX5_pictureOrNull cX5_pictureOrNull 2 (some (.object "GreyReel$Picture")), .fieldLink RX5 48 "GreyReel" "coded" "I", .fieldLink RX5 15 "GreyReel" "reel" "[LGreyReel$Picture;"] ++ wsX20 ++ wsX50 ++ (vx_atS RX5 273 "java/lang/IndexOutOfBoundsException" ["java/lang/RuntimeException", "java/lang/Exception"]).filter goodWord)
def wsX5_placeIn : List Cond := .code yX5_placeIn cX5_placeIn 2 (some .int) :: ([.classLink RX5 269 "java/lang/IndexOutOfBoundsException", .initialized "java/lang/IndexOutOfBoundsException"] ++ (vx_atS RX5 273 "java/lang/IndexOutOfBoundsException" ["java/lang/RuntimeException", "java/lang/Exception"]).filter goodWord)
def wsX5_kindOf : List Cond := .code yX5_kindOf cX5_kindOf 3 (some .int) :: ([.fieldLink RX5 168 "GreyReel$Picture" "kind" "[I", .methodLink RX5 161 yX5_pictureAt, .instanceMethod yX5_pictureAt, .selects RX5 yX5_pictureAt yX5_pictureAt, .initialized RX5, .code yX5_pictureAt cX5_pictureAt 3 (some (.object "GreyReel$Picture")), .classLink RX5 269 "java/lang/IndexOutOfBoundsException", .initialized "java/lang/IndexOutOfBoundsException", .methodLink RX5 211 yX5_pictureOrNull, .instanceMethod yX5_pictureOrNull, .selects RX5 yX5_pictureOrNull yX5_pictureOrNull, .code yX5_pictureOrNull cX5_pictureOrNull 2 (some (.object "GreyReel$Picture")), .fieldLink RX5 48 "GreyReel" "coded" "I", .fieldLink RX5 15 "GreyReel" "reel" "[LGreyReel$Picture;", .methodLink RX5 171 yX5_placeIn, .static yX5_placeIn, .code yX5_placeIn cX5_placeIn 2 (some .int)] ++ wsX20 ++ wsX50 ++ (vx_atS RX5 273 "java/lang/IndexOutOfBoundsException" ["java/lang/RuntimeException", "java/lang/Exception"]).filter goodWord)
def wsX5_vectorX : List Cond := .code yX5_vectorX cX5_vectorX 3 (some .int) :: ([.fieldLink RX5 174 "GreyReel$Picture" "vx" "[I", .methodLink RX5 161 yX5_pictureAt, .instanceMethod yX5_pictureAt, .selects RX5 yX5_pictureAt yX5_pictureAt, .initialized RX5, .code yX5_pictureAt cX5_pictureAt 3 (some (.object "GreyReel$Picture")), .classLink RX5 269 "java/lang/IndexOutOfBoundsException", .initialized "java/lang/IndexOutOfBoundsException", .methodLink RX5 211 yX5_pictureOrNull, .instanceMethod yX5_pictureOrNull, .selects RX5 yX5_pictureOrNull yX5_pictureOrNull, .code yX5_pictureOrNull cX5_pictureOrNull 2 (some (.object "GreyReel$Picture")), .fieldLink RX5 48 "GreyReel" "coded" "I", .fieldLink RX5 15 "GreyReel" "reel" "[LGreyReel$Picture;", .methodLink RX5 171 yX5_placeIn, .static yX5_placeIn, .code yX5_placeIn cX5_placeIn 2 (some .int)] ++ wsX20 ++ wsX50 ++ (vx_atS RX5 273 "java/lang/IndexOutOfBoundsException" ["java/lang/RuntimeException", "java/lang/Exception"]).filter goodWord)
def wsX5_vectorY : List Cond := .code yX5_vectorY cX5_vectorY 3 (some .int) :: ([.fieldLink RX5 177 "GreyReel$Picture" "vy" "[I", .methodLink RX5 161 yX5_pictureAt, .instanceMethod yX5_pictureAt, .selects RX5 yX5_pictureAt yX5_pictureAt, .initialized RX5, .code yX5_pictureAt cX5_pictureAt 3 (some (.object "GreyReel$Picture")), .classLink RX5 269 "java/lang/IndexOutOfBoundsException", .initialized "java/lang/IndexOutOfBoundsException", .methodLink RX5 211 yX5_pictureOrNull, .instanceMethod yX5_pictureOrNull, .selects RX5 yX5_pictureOrNull yX5_pictureOrNull, .code yX5_pictureOrNull cX5_pictureOrNull 2 (some (.object "GreyReel$Picture")), .fieldLink RX5 48 "GreyReel" "coded" "I", .fieldLink RX5 15 "GreyReel" "reel" "[LGreyReel$Picture;", .methodLink RX5 171 yX5_placeIn, .static yX5_placeIn, .code yX5_placeIn cX5_placeIn 2 (some .int)] ++ wsX20 ++ wsX50 ++ (vx_atS RX5 273 "java/lang/IndexOutOfBoundsException" ["java/lang/RuntimeException", "java/lang/Exception"]).filter goodWord)
def wsX5_levels : List Cond := .code yX5_levels cX5_levels 3 (some .int) :: ([.methodLink RX5 161 yX5_pictureAt, .instanceMethod yX5_pictureAt, .selects RX5 yX5_pictureAt yX5_pictureAt, .initialized RX5, .code yX5_pictureAt cX5_pictureAt 3 (some (.object "GreyReel$Picture")), .classLink RX5 269 "java/lang/IndexOutOfBoundsException", .initialized "java/lang/IndexOutOfBoundsException", .methodLink RX5 211 yX5_pictureOrNull, .instanceMethod yX5_pictureOrNull, .selects RX5 yX5_pictureOrNull yX5_pictureOrNull, .code yX5_pictureOrNull cX5_pictureOrNull 2 (some (.object "GreyReel$Picture")), .fieldLink RX5 48 "GreyReel" "coded" "I", .fieldLink RX5 15 "GreyReel" "reel" "[LGreyReel$Picture;", .methodLink RX5 171 yX5_placeIn, .static yX5_placeIn, .code yX5_placeIn cX5_placeIn 2 (some .int), .methodLink RX5 180 yX2_levelsNotZero, .instanceMethod yX2_levelsNotZero, .selects RX2 yX2_levelsNotZero yX2_levelsNotZero, .initialized RX2, .code yX2_levelsNotZero cX2_levelsNotZero 4 (some .int), .fieldLink RX2 24 "GreyReel$Picture" "level" "[I"] ++ wsX50 ++ wsX20 ++ (vx_atS RX5 273 "java/lang/IndexOutOfBoundsException" ["java/lang/RuntimeException", "java/lang/Exception"]).filter goodWord)
def wsX5_pointAt : List Cond := .code yX5_pointAt cX5_pointAt 2 (some .int) :: ([.methodLink RX5 171 yX5_placeIn, .static yX5_placeIn, .initialized RX5, .code yX5_placeIn cX5_placeIn 2 (some .int), .classLink RX5 269 "java/lang/IndexOutOfBoundsException", .initialized "java/lang/IndexOutOfBoundsException"] ++ (vx_atS RX5 273 "java/lang/IndexOutOfBoundsException" ["java/lang/RuntimeException", "java/lang/Exception"]).filter goodWord)
def wsX5_resultAt : List Cond := .code yX5_resultAt cX5_resultAt 4 (some .int) :: ([.fieldLink RX5 186 "GreyReel$Picture" "result" "[I", .methodLink RX5 161 yX5_pictureAt, .instanceMethod yX5_pictureAt, .selects RX5 yX5_pictureAt yX5_pictureAt, .initialized RX5, .code yX5_pictureAt cX5_pictureAt 3 (some (.object "GreyReel$Picture")), .classLink RX5 269 "java/lang/IndexOutOfBoundsException", .initialized "java/lang/IndexOutOfBoundsException", .methodLink RX5 211 yX5_pictureOrNull, .instanceMethod yX5_pictureOrNull, .selects RX5 yX5_pictureOrNull yX5_pictureOrNull, .code yX5_pictureOrNull cX5_pictureOrNull 2 (some (.object "GreyReel$Picture")), .fieldLink RX5 48 "GreyReel" "coded" "I", .fieldLink RX5 15 "GreyReel" "reel" "[LGreyReel$Picture;", .methodLink RX5 120 yX5_pointAt, .static yX5_pointAt, .code yX5_pointAt cX5_pointAt 2 (some .int), .methodLink RX5 171 yX5_placeIn, .static yX5_placeIn, .code yX5_placeIn cX5_placeIn 2 (some .int)] ++ wsX20 ++ wsX50 ++ (vx_atS RX5 273 "java/lang/IndexOutOfBoundsException" ["java/lang/RuntimeException", "java/lang/Exception"]).filter goodWord)
def wsX5_errorOf : List Cond := .code yX5_errorOf cX5_errorOf 2 (some .int) :: ([.fieldLink RX5 189 "GreyReel$Picture" "error" "I", .methodLink RX5 161 yX5_pictureAt, .instanceMethod yX5_pictureAt, .selects RX5 yX5_pictureAt yX5_pictureAt, .initialized RX5, .code yX5_pictureAt cX5_pictureAt 3 (some (.object "GreyReel$Picture")), .classLink RX5 269 "java/lang/IndexOutOfBoundsException", .initialized "java/lang/IndexOutOfBoundsException", .methodLink RX5 211 yX5_pictureOrNull, .instanceMethod yX5_pictureOrNull, .selects RX5 yX5_pictureOrNull yX5_pictureOrNull, .code yX5_pictureOrNull cX5_pictureOrNull 2 (some (.object "GreyReel$Picture")), .fieldLink RX5 48 "GreyReel" "coded" "I", .fieldLink RX5 15 "GreyReel" "reel" "[LGreyReel$Picture;"] ++ wsX20 ++ wsX50 ++ (vx_atS RX5 273 "java/lang/IndexOutOfBoundsException" ["java/lang/RuntimeException", "java/lang/Exception"]).filter goodWord)
def wsX5_bytes : List Cond := .code yX5_bytes cX5_bytes 3 (some .int) :: ([.methodLink RX5 161 yX5_pictureAt, .instanceMethod yX5_pictureAt, .selects RX5 yX5_pictureAt yX5_pictureAt, .initialized RX5, .code yX5_pictureAt cX5_pictureAt 3 (some (.object "GreyReel$Picture")), .classLink RX5 269 "java/lang/IndexOutOfBoundsException", .initialized "java/lang/IndexOutOfBoundsException", .methodLink RX5 211 yX5_pictureOrNull, .instanceMethod yX5_pictureOrNull, .selects RX5 yX5_pictureOrNull yX5_pictureOrNull, .code yX5_pictureOrNull cX5_pictureOrNull 2 (some (.object "GreyReel$Picture")), .fieldLink RX5 48 "GreyReel" "coded" "I", .fieldLink RX5 15 "GreyReel" "reel" "[LGreyReel$Picture;", .methodLink RX5 171 yX5_placeIn, .static yX5_placeIn, .code yX5_placeIn cX5_placeIn 2 (some .int), .methodLink RX5 192 yX2_bytesIn, .instanceMethod yX2_bytesIn, .selects RX2 yX2_bytesIn yX2_bytesIn, .initialized RX2, .code yX2_bytesIn cX2_bytesIn 2 (some .int), .fieldLink RX2 30 "GreyReel$Picture" "usedBits" "[I"] ++ wsX50 ++ wsX20 ++ (vx_atS RX5 273 "java/lang/IndexOutOfBoundsException" ["java/lang/RuntimeException", "java/lang/Exception"]).filter goodWord)
def wsX5_bits : List Cond := .code yX5_bits cX5_bits 3 (some .int) :: ([.fieldLink RX5 195 "GreyReel$Picture" "usedBits" "[I", .methodLink RX5 161 yX5_pictureAt, .instanceMethod yX5_pictureAt, .selects RX5 yX5_pictureAt yX5_pictureAt, .initialized RX5, .code yX5_pictureAt cX5_pictureAt 3 (some (.object "GreyReel$Picture")), .classLink RX5 269 "java/lang/IndexOutOfBoundsException", .initialized "java/lang/IndexOutOfBoundsException", .methodLink RX5 211 yX5_pictureOrNull, .instanceMethod yX5_pictureOrNull, .selects RX5 yX5_pictureOrNull yX5_pictureOrNull, .code yX5_pictureOrNull cX5_pictureOrNull 2 (some (.object "GreyReel$Picture")), .fieldLink RX5 48 "GreyReel" "coded" "I", .fieldLink RX5 15 "GreyReel" "reel" "[LGreyReel$Picture;", .methodLink RX5 171 yX5_placeIn, .static yX5_placeIn, .code yX5_placeIn cX5_placeIn 2 (some .int)] ++ wsX20 ++ wsX50 ++ (vx_atS RX5 273 "java/lang/IndexOutOfBoundsException" ["java/lang/RuntimeException", "java/lang/Exception"]).filter goodWord)
def wsX5_byteAt_r1 : List Cond := [Cond.fieldLink RX5 152 "GreyReel$Picture" "row" "[I", Cond.methodLink RX5 161 yX5_pictureAt, Cond.instanceMethod yX5_pictureAt, Cond.selects RX5 yX5_pictureAt yX5_pictureAt, Cond.initialized RX5, Cond.code yX5_pictureAt cX5_pictureAt 3 (some (.object "GreyReel$Picture")), Cond.classLink RX5 269 "java/lang/IndexOutOfBoundsException", Cond.initialized "java/lang/IndexOutOfBoundsException", Cond.methodLink RX5 211 yX5_pictureOrNull, Cond.instanceMethod yX5_pictureOrNull, Cond.selects RX5 yX5_pictureOrNull yX5_pictureOrNull, Cond.code yX5_pictureOrNull cX5_pictureOrNull 2 (some (.object "GreyReel$Picture")), Cond.fieldLink RX5 48 "GreyReel" "coded" "I", Cond.fieldLink RX5 15 "GreyReel" "reel" "[LGreyReel$Picture;", Cond.methodLink RX5 171 yX5_placeIn, Cond.static yX5_placeIn, Cond.code yX5_placeIn cX5_placeIn 2 (some .int), Cond.methodLink RX5 198 yX2_firstByteOf, Cond.instanceMethod yX2_firstByteOf, Cond.selects RX2 yX2_firstByteOf yX2_firstByteOf, Cond.initialized RX2, Cond.code yX2_firstByteOf cX2_firstByteOf 4 (some .int), Cond.methodLink RX2 57 yX2_bytesIn, Cond.instanceMethod yX2_bytesIn]
def wsX5_byteAt_r2 : List Cond := [Cond.selects RX2 yX2_bytesIn yX2_bytesIn, Cond.code yX2_bytesIn cX2_bytesIn 2 (some .int), Cond.fieldLink RX2 30 "GreyReel$Picture" "usedBits" "[I", Cond.methodLink RX5 192 yX2_bytesIn]
def wsX5_byteAt : List Cond := .code yX5_byteAt cX5_byteAt 7 (some .int) :: ((wsX5_byteAt_r1 ++ wsX5_byteAt_r2) ++ wsX20 ++ wsX50 ++ (vx_atS RX5 273 "java/lang/IndexOutOfBoundsException" ["java/lang/RuntimeException", "java/lang/Exception"]).filter goodWord)
def wsX5_handOver : List Cond := .code yX5_handOver cX5_handOver 4 (some .boolean) :: ([.fieldLink RX5 286 "GreyReel$Picture" "number" "I", .fieldLink RX5 36 "GreyReel" "viewer" "LGreyReel$Viewer;", .fieldLink RX5 208 "GreyReel$Viewer" "shownPictures" "I", .fieldLink RX5 235 "GreyReel$Picture" "got" "[Z"] ++ wsX20 ++ wsX50 ++ wsX40)
def wsX5_hand : List Cond := .code yX5_hand cX5_hand 4 (some .boolean) :: ([.methodLink RX5 161 yX5_pictureAt, .instanceMethod yX5_pictureAt, .selects RX5 yX5_pictureAt yX5_pictureAt, .initialized RX5, .code yX5_pictureAt cX5_pictureAt 3 (some (.object "GreyReel$Picture")), .classLink RX5 269 "java/lang/IndexOutOfBoundsException", .initialized "java/lang/IndexOutOfBoundsException", .methodLink RX5 211 yX5_pictureOrNull, .instanceMethod yX5_pictureOrNull, .selects RX5 yX5_pictureOrNull yX5_pictureOrNull, .code yX5_pictureOrNull cX5_pictureOrNull 2 (some (.object "GreyReel$Picture")), .fieldLink RX5 48 "GreyReel" "coded" "I", .fieldLink RX5 15 "GreyReel" "reel" "[LGreyReel$Picture;", .methodLink RX5 171 yX5_placeIn, .static yX5_placeIn, .code yX5_placeIn cX5_placeIn 2 (some .int), .methodLink RX5 204 yX5_handOver, .instanceMethod yX5_handOver, .selects RX5 yX5_handOver yX5_handOver, .code yX5_handOver cX5_handOver 4 (some .boolean), .fieldLink RX5 286 "GreyReel$Picture" "number" "I", .fieldLink RX5 36 "GreyReel" "viewer" "LGreyReel$Viewer;", .fieldLink RX5 208 "GreyReel$Viewer" "shownPictures" "I", .fieldLink RX5 235 "GreyReel$Picture" "got" "[Z"] ++ wsX50 ++ wsX20 ++ wsX40 ++ (vx_atS RX5 273 "java/lang/IndexOutOfBoundsException" ["java/lang/RuntimeException", "java/lang/Exception"]).filter goodWord)
def wsX5_show_r1 : List Cond := [Cond.classLink RX5 214 "java/lang/IllegalStateException", Cond.initialized "java/lang/IllegalStateException", Cond.fieldLink RX5 36 "GreyReel" "viewer" "LGreyReel$Viewer;", Cond.fieldLink RX5 208 "GreyReel$Viewer" "shownPictures" "I", Cond.methodLink RX5 211 yX5_pictureOrNull, Cond.instanceMethod yX5_pictureOrNull, Cond.selects RX5 yX5_pictureOrNull yX5_pictureOrNull, Cond.initialized RX5, Cond.code yX5_pictureOrNull cX5_pictureOrNull 2 (some (.object "GreyReel$Picture")), Cond.fieldLink RX5 48 "GreyReel" "coded" "I", Cond.fieldLink RX5 15 "GreyReel" "reel" "[LGreyReel$Picture;", Cond.methodLink RX5 219 yX4_make, Cond.instanceMethod yX4_make, Cond.selects RX4 yX4_make yX4_make, Cond.initialized RX4, Cond.code yX4_make cX4_make 3 none, Cond.fieldLink RX4 12 "GreyReel$Viewer" "studio" "LGreyReel$Studio;", Cond.fieldLink RX4 18 "GreyReel$Viewer" "screen" "[I", Cond.fieldLink RX4 36 "GreyReel$Picture" "got" "[Z", Cond.fieldLink RX4 42 "GreyReel$Picture" "kind" "[I", Cond.fieldLink RX4 45 "GreyReel$Picture" "vx" "[I", Cond.fieldLink RX4 48 "GreyReel$Picture" "vy" "[I", Cond.fieldLink RX4 55 "GreyReel$Picture" "q" "I", Cond.fieldLink RX4 58 "GreyReel$Picture" "level" "[I"]
def wsX5_show_r2 : List Cond := [Cond.fieldLink RX4 69 "GreyReel$Picture" "isSmoothed" "Z", Cond.methodLink RX4 32 yX3_lookAhead, Cond.instanceMethod yX3_lookAhead, Cond.selects RX3 yX3_lookAhead yX3_lookAhead, Cond.initialized RX3, Cond.code yX3_lookAhead cX3_lookAhead 5 none, Cond.fieldLink RX3 11 "GreyReel$Studio" "ahead" "[I", Cond.static yX5_onRow, Cond.code yX5_onRow cX5_onRow 2 (some .int), Cond.methodLink RX5 92 Lib.Math.min.name, Cond.static Lib.Math.min.name, Cond.initialized "java/lang/Math", Cond.code Lib.Math.min.name Lib.Math.min.code 2 (some .int), Cond.methodLink RX5 86 Lib.Math.max.name, Cond.static Lib.Math.max.name, Cond.code Lib.Math.max.name Lib.Math.max.code 2 (some .int), Cond.methodLink RX4 51 yX3_foretell, Cond.instanceMethod yX3_foretell, Cond.selects RX3 yX3_foretell yX3_foretell, Cond.code yX3_foretell cX3_foretell 5 none, Cond.methodLink RX3 28 yX3_foretellMoved, Cond.instanceMethod yX3_foretellMoved, Cond.selects RX3 yX3_foretellMoved yX3_foretellMoved, Cond.code yX3_foretellMoved cX3_foretellMoved 9 none]
def wsX5_show_r3 : List Cond := [Cond.fieldLink RX3 21 "GreyReel$Studio" "foretold" "[I", Cond.methodLink RX3 42 yX3_startAhead, Cond.instanceMethod yX3_startAhead, Cond.selects RX3 yX3_startAhead yX3_startAhead, Cond.code yX3_startAhead cX3_startAhead 8 (some .int), Cond.methodLink RX3 46 yX3_between, Cond.instanceMethod yX3_between, Cond.selects RX3 yX3_between yX3_between, Cond.code yX3_between cX3_between 6 (some .int), Cond.methodLink RX3 32 yX3_foretellFlat, Cond.instanceMethod yX3_foretellFlat, Cond.selects RX3 yX3_foretellFlat yX3_foretellFlat, Cond.code yX3_foretellFlat cX3_foretellFlat 6 none, Cond.fieldLink RX3 18 "GreyReel$Studio" "made" "[I", Cond.static yX5_isFirstOfBand, Cond.code yX5_isFirstOfBand cX5_isFirstOfBand 1 (some .boolean), Cond.static yX5_firstPointOf, Cond.code yX5_firstPointOf cX5_firstPointOf 1 (some .int), Cond.methodLink RX3 62 yJ7_fill_53178, Cond.static yJ7_fill_53178, Cond.initialized RJ7, Cond.code yJ7_fill_53178 cJ7_fill_53178 4 none, Cond.methodLink RX3 36 yX3_foretellLeft, Cond.instanceMethod yX3_foretellLeft]
def wsX5_show_r4 : List Cond := [Cond.selects RX3 yX3_foretellLeft yX3_foretellLeft, Cond.code yX3_foretellLeft cX3_foretellLeft 4 none, Cond.methodLink RX3 39 yX3_foretellTrend, Cond.instanceMethod yX3_foretellTrend, Cond.selects RX3 yX3_foretellTrend yX3_foretellTrend, Cond.code yX3_foretellTrend cX3_foretellTrend 6 none, Cond.static yX5_clip, Cond.code yX5_clip cX5_clip 1 (some .int), Cond.methodLink RX4 61 yX3_makeBlock, Cond.instanceMethod yX3_makeBlock, Cond.selects RX3 yX3_makeBlock yX3_makeBlock, Cond.code yX3_makeBlock cX3_makeBlock 8 none, Cond.fieldLink RX3 15 "GreyReel$Studio" "quarterNumbers" "[I", Cond.fieldLink RX3 80 "GreyReel$Studio" "ORDER" "[I", Cond.methodLink RX3 77 yX3_turnQuarter, Cond.instanceMethod yX3_turnQuarter, Cond.selects RX3 yX3_turnQuarter yX3_turnQuarter, Cond.code yX3_turnQuarter cX3_turnQuarter 2 none, Cond.methodLink RX3 86 yX3_turnFour, Cond.instanceMethod yX3_turnFour, Cond.selects RX3 yX3_turnFour yX3_turnFour, Cond.code yX3_turnFour cX3_turnFour 7 none, Cond.methodLink RX3 71 yX3_placeInBlock, Cond.static yX3_placeInBlock]
def wsX5_show_r5 : List Cond := [Cond.code yX3_placeInBlock cX3_placeInBlock 4 (some .int), Cond.methodLink RX3 74 yX3_pointOf, Cond.static yX3_pointOf, Cond.code yX3_pointOf cX3_pointOf 2 (some .int), Cond.methodLink RX4 65 yX4_conceal, Cond.instanceMethod yX4_conceal, Cond.selects RX4 yX4_conceal yX4_conceal, Cond.code yX4_conceal cX4_conceal 7 none, Cond.methodLink RX4 81 yX3_makeForetold, Cond.instanceMethod yX3_makeForetold, Cond.selects RX3 yX3_makeForetold yX3_makeForetold, Cond.code yX3_makeForetold cX3_makeForetold 3 none, Cond.methodLink RX4 73 yX2_bandsGot, Cond.instanceMethod yX2_bandsGot, Cond.selects RX2 yX2_bandsGot yX2_bandsGot, Cond.initialized RX2, Cond.code yX2_bandsGot cX2_bandsGot 3 (some .int), Cond.fieldLink RX2 33 "GreyReel$Picture" "got" "[Z", Cond.methodLink RX4 77 yX3_smooth, Cond.instanceMethod yX3_smooth, Cond.selects RX3 yX3_smooth yX3_smooth, Cond.code yX3_smooth cX3_smooth 4 none, Cond.methodLink RX3 90 yX3_smoothAcross, Cond.instanceMethod yX3_smoothAcross]
def wsX5_show_r6 : List Cond := [Cond.selects RX3 yX3_smoothAcross yX3_smoothAcross, Cond.code yX3_smoothAcross cX3_smoothAcross 10 none, Cond.methodLink RX3 53 Lib.Math.abs.name, Cond.static Lib.Math.abs.name, Cond.code Lib.Math.abs.name Lib.Math.abs.code 1 (some .int), Cond.methodLink RX5 222 yX4_takeMade, Cond.instanceMethod yX4_takeMade, Cond.selects RX4 yX4_takeMade yX4_takeMade, Cond.code yX4_takeMade cX4_takeMade 1 none, Cond.fieldLink RX4 84 "GreyReel$Studio" "made" "[I", Cond.methodLink RX4 87 arraycopyName, Cond.native arraycopyName, Cond.static arraycopyName, Cond.initialized "java/lang/System", Cond.fieldLink RX4 22 "GreyReel$Viewer" "shownPictures" "I", Cond.methodLink RX5 225 yX2_bandsGot]
def wsX5_show : List Cond := .code yX5_show cX5_show 2 (some .int) :: ((wsX5_show_r1 ++ (wsX5_show_r2 ++ (wsX5_show_r3 ++ (wsX5_show_r4 ++ (wsX5_show_r5 ++ wsX5_show_r6))))) ++ wsX50 ++ wsX40 ++ wsX20 ++ wsX30 ++ (vx_atS RX5 218 "java/lang/IllegalStateException" ["java/lang/RuntimeException", "java/lang/Exception"]).filter goodWord)
def wsX5_shown : List Cond := .code yX5_shown cX5_shown 1 (some .int) :: ([.fieldLink RX5 36 "GreyReel" "viewer" "LGreyReel$Viewer;", .fieldLink RX5 208 "GreyReel$Viewer" "shownPictures" "I"] ++ wsX50 ++ wsX40)
def wsX5_shownAt : List Cond := .code yX5_shownAt cX5_shownAt 3 (some .int) :: ([.fieldLink RX5 36 "GreyReel" "viewer" "LGreyReel$Viewer;", .fieldLink RX5 228 "GreyReel$Viewer" "screen" "[I", .methodLink RX5 120 yX5_pointAt, .static yX5_pointAt, .initialized RX5, .code yX5_pointAt cX5_pointAt 2 (some .int), .methodLink RX5 171 yX5_placeIn, .static yX5_placeIn, .code yX5_placeIn cX5_placeIn 2 (some .int), .classLink RX5 269 "java/lang/IndexOutOfBoundsException", .initialized "java/lang/IndexOutOfBoundsException"] ++ wsX50 ++ wsX40 ++ (vx_atS RX5 273 "java/lang/IndexOutOfBoundsException" ["java/lang/RuntimeException", "java/lang/Exception"]).filter goodWord)
def wsX5_distance : List Cond := .code yX5_distance cX5_distance 4 (some .int) :: ([.methodLink RX5 274 Lib.Math.abs.name, .static Lib.Math.abs.name, .initialized "java/lang/Math", .code Lib.Math.abs.name Lib.Math.abs.code 1 (some .int)])
def wsX5_drift : List Cond := .code yX5_drift cX5_drift 2 (some .int) :: ([.fieldLink RX5 36 "GreyReel" "viewer" "LGreyReel$Viewer;", .fieldLink RX5 208 "GreyReel$Viewer" "shownPictures" "I", .fieldLink RX5 228 "GreyReel$Viewer" "screen" "[I", .fieldLink RX5 186 "GreyReel$Picture" "result" "[I", .methodLink RX5 211 yX5_pictureOrNull, .instanceMethod yX5_pictureOrNull, .selects RX5 yX5_pictureOrNull yX5_pictureOrNull, .initialized RX5, .code yX5_pictureOrNull cX5_pictureOrNull 2 (some (.object "GreyReel$Picture")), .fieldLink RX5 48 "GreyReel" "coded" "I", .fieldLink RX5 15 "GreyReel" "reel" "[LGreyReel$Picture;", .methodLink RX5 231 yX5_distance, .static yX5_distance, .code yX5_distance cX5_distance 4 (some .int), .methodLink RX5 274 Lib.Math.abs.name, .static Lib.Math.abs.name, .initialized "java/lang/Math", .code Lib.Math.abs.name Lib.Math.abs.code 1 (some .int)] ++ wsX50 ++ wsX40 ++ wsX20)
def wsX5_bytesWith_r1 : List Cond := [Cond.classLink RX5 75 "java/lang/IllegalArgumentException", Cond.initialized "java/lang/IllegalArgumentException", Cond.fieldLink RX5 29 "GreyReel" "writer" "LGreyReel$PacketWriter;", Cond.fieldLink RX5 44 "GreyReel" "draft" "LGreyReel$Picture;", Cond.methodLink RX5 71 yX5_isWithin, Cond.static yX5_isWithin, Cond.initialized RX5, Cond.code yX5_isWithin cX5_isWithin 3 (some .boolean), Cond.methodLink RX5 133 yX5_refuseIfFull, Cond.instanceMethod yX5_refuseIfFull, Cond.selects RX5 yX5_refuseIfFull yX5_refuseIfFull, Cond.code yX5_refuseIfFull cX5_refuseIfFull 1 none, Cond.classLink RX5 214 "java/lang/IllegalStateException", Cond.initialized "java/lang/IllegalStateException", Cond.fieldLink RX5 48 "GreyReel" "coded" "I", Cond.methodLink RX5 136 yX5_draftNext, Cond.instanceMethod yX5_draftNext, Cond.selects RX5 yX5_draftNext yX5_draftNext, Cond.code yX5_draftNext cX5_draftNext 3 none, Cond.fieldLink RX5 22 "GreyReel" "coder" "LGreyReel$Coder;", Cond.fieldLink RX5 281 "GreyReel$Coder" "studio" "LGreyReel$Studio;", Cond.fieldLink RX5 186 "GreyReel$Picture" "result" "[I", Cond.fieldLink RX5 286 "GreyReel$Picture" "number" "I", Cond.fieldLink RX5 165 "GreyReel$Picture" "q" "I"]
def wsX5_bytesWith_r2 : List Cond := [Cond.fieldLink RX5 64 "GreyReel" "isSmoothing" "Z", Cond.fieldLink RX5 289 "GreyReel$Picture" "isSmoothed" "Z", Cond.fieldLink RX5 155 "GreyReel$Picture" "isKeyPicture" "Z", Cond.fieldLink RX5 9 "GreyReel" "canvas" "[I", Cond.methodLink RX5 211 yX5_pictureOrNull, Cond.instanceMethod yX5_pictureOrNull, Cond.selects RX5 yX5_pictureOrNull yX5_pictureOrNull, Cond.code yX5_pictureOrNull cX5_pictureOrNull 2 (some (.object "GreyReel$Picture")), Cond.fieldLink RX5 15 "GreyReel" "reel" "[LGreyReel$Picture;", Cond.methodLink RX5 282 yX3_lookAhead, Cond.instanceMethod yX3_lookAhead, Cond.selects RX3 yX3_lookAhead yX3_lookAhead, Cond.initialized RX3, Cond.code yX3_lookAhead cX3_lookAhead 5 none, Cond.fieldLink RX3 11 "GreyReel$Studio" "ahead" "[I", Cond.static yX5_onRow, Cond.code yX5_onRow cX5_onRow 2 (some .int), Cond.methodLink RX5 92 Lib.Math.min.name, Cond.static Lib.Math.min.name, Cond.initialized "java/lang/Math", Cond.code Lib.Math.min.name Lib.Math.min.code 2 (some .int), Cond.methodLink RX5 86 Lib.Math.max.name, Cond.static Lib.Math.max.name, Cond.code Lib.Math.max.name Lib.Math.max.code 2 (some .int)]
def wsX5_bytesWith_r3 : List Cond := [Cond.methodLink RX5 129 yX5_isKeyDue, Cond.instanceMethod yX5_isKeyDue, Cond.selects RX5 yX5_isKeyDue yX5_isKeyDue, Cond.code yX5_isKeyDue cX5_isKeyDue 1 (some .boolean), Cond.fieldLink RX5 68 "GreyReel" "isKeyAsked" "Z", Cond.fieldLink RX5 52 "GreyReel" "deltasBehindKey" "I", Cond.fieldLink RX5 61 "GreyReel" "keyInterval" "I", Cond.methodLink RX5 292 yX0_codeAll, Cond.instanceMethod yX0_codeAll, Cond.selects RX0 yX0_codeAll yX0_codeAll, Cond.initialized RX0, Cond.code yX0_codeAll cX0_codeAll 6 none, Cond.fieldLink RX0 35 "GreyReel$Picture" "isSmoothed" "Z", Cond.fieldLink RX0 12 "GreyReel$Coder" "studio" "LGreyReel$Studio;", Cond.fieldLink RX0 41 "GreyReel$Picture" "q" "I", Cond.fieldLink RX0 48 "GreyReel$Studio" "made" "[I", Cond.fieldLink RX0 52 "GreyReel$Picture" "result" "[I", Cond.fieldLink RX0 55 "GreyReel$Picture" "error" "I", Cond.methodLink RX0 31 yX0_codeBlock, Cond.instanceMethod yX0_codeBlock, Cond.selects RX0 yX0_codeBlock yX0_codeBlock, Cond.code yX0_codeBlock cX0_codeBlock 7 none, Cond.constant RX0 58 (1048576), Cond.fieldLink RX0 28 "GreyReel$Coder" "bestPrice" "I"]
def wsX5_bytesWith_r4 : List Cond := [Cond.fieldLink RX0 59 "GreyReel$Picture" "isKeyPicture" "Z", Cond.fieldLink RX0 18 "GreyReel$Coder" "bestKind" "I", Cond.fieldLink RX0 22 "GreyReel$Coder" "bestX" "I", Cond.fieldLink RX0 25 "GreyReel$Coder" "bestY" "I", Cond.fieldLink RX0 77 "GreyReel$Picture" "level" "[I", Cond.fieldLink RX0 91 "GreyReel$Picture" "kind" "[I", Cond.fieldLink RX0 94 "GreyReel$Picture" "vx" "[I", Cond.fieldLink RX0 97 "GreyReel$Picture" "vy" "[I", Cond.fieldLink RX0 100 "GreyReel$Picture" "price" "[I", Cond.methodLink RX0 62 yX0_seekVector, Cond.instanceMethod yX0_seekVector, Cond.selects RX0 yX0_seekVector yX0_seekVector, Cond.code yX0_seekVector cX0_seekVector 8 none, Cond.methodLink RX0 107 yX0_tryVector, Cond.instanceMethod yX0_tryVector, Cond.selects RX0 yX0_tryVector yX0_tryVector, Cond.code yX0_tryVector cX0_tryVector 9 none, Cond.methodLink RX0 115 Lib.Math.abs.name, Cond.static Lib.Math.abs.name, Cond.code Lib.Math.abs.name Lib.Math.abs.code 1 (some .int), Cond.methodLink RX0 84 yX2_expectedX, Cond.instanceMethod yX2_expectedX, Cond.selects RX2 yX2_expectedX yX2_expectedX, Cond.initialized RX2]
def wsX5_bytesWith_r5 : List Cond := [Cond.code yX2_expectedX cX2_expectedX 2 (some .int), Cond.fieldLink RX2 15 "GreyReel$Picture" "vx" "[I", Cond.static yX5_isFirstOfBand, Cond.code yX5_isFirstOfBand cX5_isFirstOfBand 1 (some .boolean), Cond.methodLink RX0 88 yX2_expectedY, Cond.instanceMethod yX2_expectedY, Cond.selects RX2 yX2_expectedY yX2_expectedY, Cond.code yX2_expectedY cX2_expectedY 2 (some .int), Cond.fieldLink RX2 18 "GreyReel$Picture" "vy" "[I", Cond.methodLink RX0 120 yX3_differenceMoved, Cond.instanceMethod yX3_differenceMoved, Cond.selects RX3 yX3_differenceMoved yX3_differenceMoved, Cond.code yX3_differenceMoved cX3_differenceMoved 14 (some .int), Cond.methodLink RX3 53 Lib.Math.abs.name, Cond.methodLink RX3 42 yX3_startAhead, Cond.instanceMethod yX3_startAhead, Cond.selects RX3 yX3_startAhead yX3_startAhead, Cond.code yX3_startAhead cX3_startAhead 8 (some .int), Cond.static yX5_firstPointOf, Cond.code yX5_firstPointOf cX5_firstPointOf 1 (some .int), Cond.methodLink RX3 46 yX3_between, Cond.instanceMethod yX3_between, Cond.selects RX3 yX3_between yX3_between, Cond.code yX3_between cX3_between 6 (some .int)]
def wsX5_bytesWith_r6 : List Cond := [Cond.methodLink RX0 124 yX0_take, Cond.instanceMethod yX0_take, Cond.selects RX0 yX0_take yX0_take, Cond.code yX0_take cX0_take 5 none, Cond.methodLink RX0 65 yX0_tryKind, Cond.instanceMethod yX0_tryKind, Cond.selects RX0 yX0_tryKind yX0_tryKind, Cond.code yX0_tryKind cX0_tryKind 6 none, Cond.methodLink RX0 73 yX3_foretell, Cond.instanceMethod yX3_foretell, Cond.selects RX3 yX3_foretell yX3_foretell, Cond.code yX3_foretell cX3_foretell 5 none, Cond.methodLink RX3 28 yX3_foretellMoved, Cond.instanceMethod yX3_foretellMoved, Cond.selects RX3 yX3_foretellMoved yX3_foretellMoved, Cond.code yX3_foretellMoved cX3_foretellMoved 9 none, Cond.fieldLink RX3 21 "GreyReel$Studio" "foretold" "[I", Cond.methodLink RX3 32 yX3_foretellFlat, Cond.instanceMethod yX3_foretellFlat, Cond.selects RX3 yX3_foretellFlat yX3_foretellFlat, Cond.code yX3_foretellFlat cX3_foretellFlat 6 none, Cond.fieldLink RX3 18 "GreyReel$Studio" "made" "[I", Cond.methodLink RX3 62 yJ7_fill_53178, Cond.static yJ7_fill_53178]
def wsX5_bytesWith_r7 : List Cond := [Cond.initialized RJ7, Cond.code yJ7_fill_53178 cJ7_fill_53178 4 none, Cond.methodLink RX3 36 yX3_foretellLeft, Cond.instanceMethod yX3_foretellLeft, Cond.selects RX3 yX3_foretellLeft yX3_foretellLeft, Cond.code yX3_foretellLeft cX3_foretellLeft 4 none, Cond.methodLink RX3 39 yX3_foretellTrend, Cond.instanceMethod yX3_foretellTrend, Cond.selects RX3 yX3_foretellTrend yX3_foretellTrend, Cond.code yX3_foretellTrend cX3_foretellTrend 6 none, Cond.static yX5_clip, Cond.code yX5_clip cX5_clip 1 (some .int), Cond.methodLink RX0 127 yX3_difference, Cond.instanceMethod yX3_difference, Cond.selects RX3 yX3_difference yX3_difference, Cond.code yX3_difference cX3_difference 6 (some .int), Cond.methodLink RX0 80 yX3_measure, Cond.instanceMethod yX3_measure, Cond.selects RX3 yX3_measure yX3_measure, Cond.code yX3_measure cX3_measure 10 (some .boolean), Cond.fieldLink RX3 15 "GreyReel$Studio" "quarterNumbers" "[I", Cond.fieldLink RX3 80 "GreyReel$Studio" "ORDER" "[I", Cond.methodLink RX3 71 yX3_placeInBlock, Cond.static yX3_placeInBlock]
def wsX5_bytesWith_r8 : List Cond := [Cond.code yX3_placeInBlock cX3_placeInBlock 4 (some .int), Cond.methodLink RX3 74 yX3_pointOf, Cond.static yX3_pointOf, Cond.code yX3_pointOf cX3_pointOf 2 (some .int), Cond.methodLink RX3 77 yX3_turnQuarter, Cond.instanceMethod yX3_turnQuarter, Cond.selects RX3 yX3_turnQuarter yX3_turnQuarter, Cond.code yX3_turnQuarter cX3_turnQuarter 2 none, Cond.methodLink RX3 86 yX3_turnFour, Cond.instanceMethod yX3_turnFour, Cond.selects RX3 yX3_turnFour yX3_turnFour, Cond.code yX3_turnFour cX3_turnFour 7 none, Cond.methodLink RX3 83 yX3_levelOf, Cond.static yX3_levelOf, Cond.code yX3_levelOf cX3_levelOf 4 (some .int), Cond.methodLink RX0 103 yX3_makeBlock, Cond.instanceMethod yX3_makeBlock, Cond.selects RX3 yX3_makeBlock yX3_makeBlock, Cond.code yX3_makeBlock cX3_makeBlock 8 none, Cond.methodLink RX0 44 yX3_smooth, Cond.instanceMethod yX3_smooth, Cond.selects RX3 yX3_smooth yX3_smooth, Cond.code yX3_smooth cX3_smooth 4 none, Cond.methodLink RX3 90 yX3_smoothAcross]
def wsX5_bytesWith_r9 : List Cond := [Cond.instanceMethod yX3_smoothAcross, Cond.selects RX3 yX3_smoothAcross yX3_smoothAcross, Cond.code yX3_smoothAcross cX3_smoothAcross 10 none, Cond.methodLink RX5 296 yX2_freshBlocks, Cond.instanceMethod yX2_freshBlocks, Cond.selects RX2 yX2_freshBlocks yX2_freshBlocks, Cond.code yX2_freshBlocks cX2_freshBlocks 1 (some .int), Cond.methodLink RX2 64 yX2_blocksOf, Cond.instanceMethod yX2_blocksOf, Cond.selects RX2 yX2_blocksOf yX2_blocksOf, Cond.code yX2_blocksOf cX2_blocksOf 4 (some .int), Cond.fieldLink RX2 9 "GreyReel$Picture" "kind" "[I", Cond.methodLink RX5 140 yX1_write, Cond.instanceMethod yX1_write, Cond.selects RX1 yX1_write yX1_write, Cond.initialized RX1, Cond.code yX1_write cX1_write 5 none, Cond.fieldLink RX1 11 "GreyReel$PacketWriter" "row" "[I", Cond.fieldLink RX1 21 "GreyReel$PacketWriter" "bitsWritten" "I", Cond.fieldLink RX1 47 "GreyReel$Picture" "usedBits" "[I", Cond.methodLink RX1 35 yJ7_fill_53178, Cond.methodLink RX1 39 yX1_startBand, Cond.instanceMethod yX1_startBand, Cond.selects RX1 yX1_startBand yX1_startBand]
def wsX5_bytesWith_r10 : List Cond := [Cond.code yX1_startBand cX1_startBand 3 none, Cond.fieldLink RX1 15 "GreyReel$PacketWriter" "kindRow" "[I", Cond.fieldLink RX1 18 "GreyReel$PacketWriter" "mean" "[I", Cond.fieldLink RX1 56 "GreyReel$Picture" "number" "I", Cond.fieldLink RX1 63 "GreyReel$Picture" "isKeyPicture" "Z", Cond.fieldLink RX1 67 "GreyReel$Picture" "q" "I", Cond.fieldLink RX1 70 "GreyReel$Picture" "isSmoothed" "Z", Cond.methodLink RX1 59 yX1_put, Cond.instanceMethod yX1_put, Cond.selects RX1 yX1_put yX1_put, Cond.code yX1_put cX1_put 5 none, Cond.methodLink RX1 43 yX1_writeBlock, Cond.instanceMethod yX1_writeBlock, Cond.selects RX1 yX1_writeBlock yX1_writeBlock, Cond.code yX1_writeBlock cX1_writeBlock 5 none, Cond.fieldLink RX1 73 "GreyReel$Picture" "kind" "[I", Cond.fieldLink RX1 80 "GreyReel$Picture" "vx" "[I", Cond.fieldLink RX1 89 "GreyReel$Picture" "vy" "[I", Cond.fieldLink RX1 95 "GreyReel$Picture" "level" "[I", Cond.methodLink RX1 76 yX1_writeKind, Cond.instanceMethod yX1_writeKind, Cond.selects RX1 yX1_writeKind yX1_writeKind, Cond.code yX1_writeKind cX1_writeKind 4 none, Cond.methodLink RX1 101 yX1_putOnes]
def wsX5_bytesWith_r11 : List Cond := [Cond.instanceMethod yX1_putOnes, Cond.selects RX1 yX1_putOnes yX1_putOnes, Cond.code yX1_putOnes cX1_putOnes 2 none, Cond.methodLink RX1 83 yX2_expectedX, Cond.methodLink RX1 86 yX1_writeSigned, Cond.instanceMethod yX1_writeSigned, Cond.selects RX1 yX1_writeSigned yX1_writeSigned, Cond.code yX1_writeSigned cX1_writeSigned 4 none, Cond.static yX5_folded, Cond.code yX5_folded cX5_folded 1 (some .int), Cond.methodLink RX1 92 yX2_expectedY, Cond.methodLink RX1 98 yX1_writeLevels, Cond.instanceMethod yX1_writeLevels, Cond.selects RX1 yX1_writeLevels yX1_writeLevels, Cond.code yX1_writeLevels cX1_writeLevels 6 none, Cond.methodLink RX1 107 yX1_writeNumber, Cond.instanceMethod yX1_writeNumber, Cond.selects RX1 yX1_writeNumber yX1_writeNumber, Cond.code yX1_writeNumber cX1_writeNumber 4 none, Cond.methodLink RX1 52 yX2_bytesIn, Cond.instanceMethod yX2_bytesIn, Cond.selects RX2 yX2_bytesIn yX2_bytesIn, Cond.code yX2_bytesIn cX2_bytesIn 2 (some .int), Cond.fieldLink RX2 30 "GreyReel$Picture" "usedBits" "[I"]
def wsX5_bytesWith_r12 : List Cond := [Cond.methodLink RX5 144 yX2_bytesInAll, Cond.instanceMethod yX2_bytesInAll, Cond.selects RX2 yX2_bytesInAll yX2_bytesInAll, Cond.code yX2_bytesInAll cX2_bytesInAll 1 (some .int), Cond.methodLink RX2 61 yX2_firstByteOf, Cond.instanceMethod yX2_firstByteOf, Cond.selects RX2 yX2_firstByteOf yX2_firstByteOf, Cond.code yX2_firstByteOf cX2_firstByteOf 4 (some .int), Cond.methodLink RX2 57 yX2_bytesIn]
def wsX5_bytesWith : List Cond := .code yX5_bytesWith cX5_bytesWith 2 (some .int) :: ((wsX5_bytesWith_r1 ++ (wsX5_bytesWith_r2 ++ (wsX5_bytesWith_r3 ++ (wsX5_bytesWith_r4 ++ (wsX5_bytesWith_r5 ++ (wsX5_bytesWith_r6 ++ (wsX5_bytesWith_r7 ++ (wsX5_bytesWith_r8 ++ (wsX5_bytesWith_r9 ++ (wsX5_bytesWith_r10 ++ (wsX5_bytesWith_r11 ++ wsX5_bytesWith_r12))))))))))) ++ wsX50 ++ wsX00 ++ wsX20 ++ wsX30 ++ wsX10 ++ (vx_atS RX5 79 "java/lang/IllegalArgumentException" ["java/lang/RuntimeException", "java/lang/Exception"]).filter goodWord ++ (vx_atS RX5 218 "java/lang/IllegalStateException" ["java/lang/RuntimeException", "java/lang/Exception"]).filter goodWord)
def wsX5_priceOf_r1 : List Cond := [Cond.fieldLink RX5 55 "GreyReel" "nextStep" "I", Cond.fieldLink RX5 44 "GreyReel" "draft" "LGreyReel$Picture;", Cond.fieldLink RX5 239 "GreyReel$Picture" "price" "[I", Cond.methodLink RX5 171 yX5_placeIn, Cond.static yX5_placeIn, Cond.initialized RX5, Cond.code yX5_placeIn cX5_placeIn 2 (some .int), Cond.classLink RX5 269 "java/lang/IndexOutOfBoundsException", Cond.initialized "java/lang/IndexOutOfBoundsException", Cond.methodLink RX5 133 yX5_refuseIfFull, Cond.instanceMethod yX5_refuseIfFull, Cond.selects RX5 yX5_refuseIfFull yX5_refuseIfFull, Cond.code yX5_refuseIfFull cX5_refuseIfFull 1 none, Cond.classLink RX5 214 "java/lang/IllegalStateException", Cond.initialized "java/lang/IllegalStateException", Cond.fieldLink RX5 48 "GreyReel" "coded" "I", Cond.methodLink RX5 136 yX5_draftNext, Cond.instanceMethod yX5_draftNext, Cond.selects RX5 yX5_draftNext yX5_draftNext, Cond.code yX5_draftNext cX5_draftNext 3 none, Cond.fieldLink RX5 22 "GreyReel" "coder" "LGreyReel$Coder;", Cond.fieldLink RX5 281 "GreyReel$Coder" "studio" "LGreyReel$Studio;", Cond.fieldLink RX5 186 "GreyReel$Picture" "result" "[I", Cond.fieldLink RX5 286 "GreyReel$Picture" "number" "I"]
def wsX5_priceOf_r2 : List Cond := [Cond.fieldLink RX5 165 "GreyReel$Picture" "q" "I", Cond.fieldLink RX5 64 "GreyReel" "isSmoothing" "Z", Cond.fieldLink RX5 289 "GreyReel$Picture" "isSmoothed" "Z", Cond.fieldLink RX5 155 "GreyReel$Picture" "isKeyPicture" "Z", Cond.fieldLink RX5 9 "GreyReel" "canvas" "[I", Cond.methodLink RX5 211 yX5_pictureOrNull, Cond.instanceMethod yX5_pictureOrNull, Cond.selects RX5 yX5_pictureOrNull yX5_pictureOrNull, Cond.code yX5_pictureOrNull cX5_pictureOrNull 2 (some (.object "GreyReel$Picture")), Cond.fieldLink RX5 15 "GreyReel" "reel" "[LGreyReel$Picture;", Cond.methodLink RX5 282 yX3_lookAhead, Cond.instanceMethod yX3_lookAhead, Cond.selects RX3 yX3_lookAhead yX3_lookAhead, Cond.initialized RX3, Cond.code yX3_lookAhead cX3_lookAhead 5 none, Cond.fieldLink RX3 11 "GreyReel$Studio" "ahead" "[I", Cond.static yX5_onRow, Cond.code yX5_onRow cX5_onRow 2 (some .int), Cond.methodLink RX5 92 Lib.Math.min.name, Cond.static Lib.Math.min.name, Cond.initialized "java/lang/Math", Cond.code Lib.Math.min.name Lib.Math.min.code 2 (some .int), Cond.methodLink RX5 86 Lib.Math.max.name, Cond.static Lib.Math.max.name]
def wsX5_priceOf_r3 : List Cond := [Cond.code Lib.Math.max.name Lib.Math.max.code 2 (some .int), Cond.methodLink RX5 129 yX5_isKeyDue, Cond.instanceMethod yX5_isKeyDue, Cond.selects RX5 yX5_isKeyDue yX5_isKeyDue, Cond.code yX5_isKeyDue cX5_isKeyDue 1 (some .boolean), Cond.fieldLink RX5 68 "GreyReel" "isKeyAsked" "Z", Cond.fieldLink RX5 52 "GreyReel" "deltasBehindKey" "I", Cond.fieldLink RX5 61 "GreyReel" "keyInterval" "I", Cond.methodLink RX5 292 yX0_codeAll, Cond.instanceMethod yX0_codeAll, Cond.selects RX0 yX0_codeAll yX0_codeAll, Cond.initialized RX0, Cond.code yX0_codeAll cX0_codeAll 6 none, Cond.fieldLink RX0 35 "GreyReel$Picture" "isSmoothed" "Z", Cond.fieldLink RX0 12 "GreyReel$Coder" "studio" "LGreyReel$Studio;", Cond.fieldLink RX0 41 "GreyReel$Picture" "q" "I", Cond.fieldLink RX0 48 "GreyReel$Studio" "made" "[I", Cond.fieldLink RX0 52 "GreyReel$Picture" "result" "[I", Cond.fieldLink RX0 55 "GreyReel$Picture" "error" "I", Cond.methodLink RX0 31 yX0_codeBlock, Cond.instanceMethod yX0_codeBlock, Cond.selects RX0 yX0_codeBlock yX0_codeBlock, Cond.code yX0_codeBlock cX0_codeBlock 7 none, Cond.constant RX0 58 (1048576)]
def wsX5_priceOf_r4 : List Cond := [Cond.fieldLink RX0 28 "GreyReel$Coder" "bestPrice" "I", Cond.fieldLink RX0 59 "GreyReel$Picture" "isKeyPicture" "Z", Cond.fieldLink RX0 18 "GreyReel$Coder" "bestKind" "I", Cond.fieldLink RX0 22 "GreyReel$Coder" "bestX" "I", Cond.fieldLink RX0 25 "GreyReel$Coder" "bestY" "I", Cond.fieldLink RX0 77 "GreyReel$Picture" "level" "[I", Cond.fieldLink RX0 91 "GreyReel$Picture" "kind" "[I", Cond.fieldLink RX0 94 "GreyReel$Picture" "vx" "[I", Cond.fieldLink RX0 97 "GreyReel$Picture" "vy" "[I", Cond.fieldLink RX0 100 "GreyReel$Picture" "price" "[I", Cond.methodLink RX0 62 yX0_seekVector, Cond.instanceMethod yX0_seekVector, Cond.selects RX0 yX0_seekVector yX0_seekVector, Cond.code yX0_seekVector cX0_seekVector 8 none, Cond.methodLink RX0 107 yX0_tryVector, Cond.instanceMethod yX0_tryVector, Cond.selects RX0 yX0_tryVector yX0_tryVector, Cond.code yX0_tryVector cX0_tryVector 9 none, Cond.methodLink RX0 115 Lib.Math.abs.name, Cond.static Lib.Math.abs.name, Cond.code Lib.Math.abs.name Lib.Math.abs.code 1 (some .int), Cond.methodLink RX0 84 yX2_expectedX, Cond.instanceMethod yX2_expectedX, Cond.selects RX2 yX2_expectedX yX2_expectedX]
def wsX5_priceOf_r5 : List Cond := [Cond.initialized RX2, Cond.code yX2_expectedX cX2_expectedX 2 (some .int), Cond.fieldLink RX2 15 "GreyReel$Picture" "vx" "[I", Cond.static yX5_isFirstOfBand, Cond.code yX5_isFirstOfBand cX5_isFirstOfBand 1 (some .boolean), Cond.methodLink RX0 88 yX2_expectedY, Cond.instanceMethod yX2_expectedY, Cond.selects RX2 yX2_expectedY yX2_expectedY, Cond.code yX2_expectedY cX2_expectedY 2 (some .int), Cond.fieldLink RX2 18 "GreyReel$Picture" "vy" "[I", Cond.methodLink RX0 120 yX3_differenceMoved, Cond.instanceMethod yX3_differenceMoved, Cond.selects RX3 yX3_differenceMoved yX3_differenceMoved, Cond.code yX3_differenceMoved cX3_differenceMoved 14 (some .int), Cond.methodLink RX3 53 Lib.Math.abs.name, Cond.methodLink RX3 42 yX3_startAhead, Cond.instanceMethod yX3_startAhead, Cond.selects RX3 yX3_startAhead yX3_startAhead, Cond.code yX3_startAhead cX3_startAhead 8 (some .int), Cond.static yX5_firstPointOf, Cond.code yX5_firstPointOf cX5_firstPointOf 1 (some .int), Cond.methodLink RX3 46 yX3_between, Cond.instanceMethod yX3_between, Cond.selects RX3 yX3_between yX3_between]
def wsX5_priceOf_r6 : List Cond := [Cond.code yX3_between cX3_between 6 (some .int), Cond.methodLink RX0 124 yX0_take, Cond.instanceMethod yX0_take, Cond.selects RX0 yX0_take yX0_take, Cond.code yX0_take cX0_take 5 none, Cond.static yX5_isWithin, Cond.code yX5_isWithin cX5_isWithin 3 (some .boolean), Cond.methodLink RX0 65 yX0_tryKind, Cond.instanceMethod yX0_tryKind, Cond.selects RX0 yX0_tryKind yX0_tryKind, Cond.code yX0_tryKind cX0_tryKind 6 none, Cond.methodLink RX0 73 yX3_foretell, Cond.instanceMethod yX3_foretell, Cond.selects RX3 yX3_foretell yX3_foretell, Cond.code yX3_foretell cX3_foretell 5 none, Cond.methodLink RX3 28 yX3_foretellMoved, Cond.instanceMethod yX3_foretellMoved, Cond.selects RX3 yX3_foretellMoved yX3_foretellMoved, Cond.code yX3_foretellMoved cX3_foretellMoved 9 none, Cond.fieldLink RX3 21 "GreyReel$Studio" "foretold" "[I", Cond.methodLink RX3 32 yX3_foretellFlat, Cond.instanceMethod yX3_foretellFlat, Cond.selects RX3 yX3_foretellFlat yX3_foretellFlat, Cond.code yX3_foretellFlat cX3_foretellFlat 6 none]
def wsX5_priceOf_r7 : List Cond := [Cond.fieldLink RX3 18 "GreyReel$Studio" "made" "[I", Cond.methodLink RX3 62 yJ7_fill_53178, Cond.static yJ7_fill_53178, Cond.initialized RJ7, Cond.code yJ7_fill_53178 cJ7_fill_53178 4 none, Cond.methodLink RX3 36 yX3_foretellLeft, Cond.instanceMethod yX3_foretellLeft, Cond.selects RX3 yX3_foretellLeft yX3_foretellLeft, Cond.code yX3_foretellLeft cX3_foretellLeft 4 none, Cond.methodLink RX3 39 yX3_foretellTrend, Cond.instanceMethod yX3_foretellTrend, Cond.selects RX3 yX3_foretellTrend yX3_foretellTrend, Cond.code yX3_foretellTrend cX3_foretellTrend 6 none, Cond.static yX5_clip, Cond.code yX5_clip cX5_clip 1 (some .int), Cond.methodLink RX0 127 yX3_difference, Cond.instanceMethod yX3_difference, Cond.selects RX3 yX3_difference yX3_difference, Cond.code yX3_difference cX3_difference 6 (some .int), Cond.methodLink RX0 80 yX3_measure, Cond.instanceMethod yX3_measure, Cond.selects RX3 yX3_measure yX3_measure, Cond.code yX3_measure cX3_measure 10 (some .boolean), Cond.fieldLink RX3 15 "GreyReel$Studio" "quarterNumbers" "[I"]
def wsX5_priceOf_r8 : List Cond := [Cond.fieldLink RX3 80 "GreyReel$Studio" "ORDER" "[I", Cond.methodLink RX3 71 yX3_placeInBlock, Cond.static yX3_placeInBlock, Cond.code yX3_placeInBlock cX3_placeInBlock 4 (some .int), Cond.methodLink RX3 74 yX3_pointOf, Cond.static yX3_pointOf, Cond.code yX3_pointOf cX3_pointOf 2 (some .int), Cond.methodLink RX3 77 yX3_turnQuarter, Cond.instanceMethod yX3_turnQuarter, Cond.selects RX3 yX3_turnQuarter yX3_turnQuarter, Cond.code yX3_turnQuarter cX3_turnQuarter 2 none, Cond.methodLink RX3 86 yX3_turnFour, Cond.instanceMethod yX3_turnFour, Cond.selects RX3 yX3_turnFour yX3_turnFour, Cond.code yX3_turnFour cX3_turnFour 7 none, Cond.methodLink RX3 83 yX3_levelOf, Cond.static yX3_levelOf, Cond.code yX3_levelOf cX3_levelOf 4 (some .int), Cond.methodLink RX0 103 yX3_makeBlock, Cond.instanceMethod yX3_makeBlock, Cond.selects RX3 yX3_makeBlock yX3_makeBlock, Cond.code yX3_makeBlock cX3_makeBlock 8 none, Cond.methodLink RX0 44 yX3_smooth, Cond.instanceMethod yX3_smooth]
def wsX5_priceOf_r9 : List Cond := [Cond.selects RX3 yX3_smooth yX3_smooth, Cond.code yX3_smooth cX3_smooth 4 none, Cond.methodLink RX3 90 yX3_smoothAcross, Cond.instanceMethod yX3_smoothAcross, Cond.selects RX3 yX3_smoothAcross yX3_smoothAcross, Cond.code yX3_smoothAcross cX3_smoothAcross 10 none, Cond.methodLink RX5 296 yX2_freshBlocks, Cond.instanceMethod yX2_freshBlocks, Cond.selects RX2 yX2_freshBlocks yX2_freshBlocks, Cond.code yX2_freshBlocks cX2_freshBlocks 1 (some .int), Cond.methodLink RX2 64 yX2_blocksOf, Cond.instanceMethod yX2_blocksOf, Cond.selects RX2 yX2_blocksOf yX2_blocksOf, Cond.code yX2_blocksOf cX2_blocksOf 4 (some .int), Cond.fieldLink RX2 9 "GreyReel$Picture" "kind" "[I"]
def wsX5_priceOf : List Cond := .code yX5_priceOf cX5_priceOf 3 (some .int) :: ((wsX5_priceOf_r1 ++ (wsX5_priceOf_r2 ++ (wsX5_priceOf_r3 ++ (wsX5_priceOf_r4 ++ (wsX5_priceOf_r5 ++ (wsX5_priceOf_r6 ++ (wsX5_priceOf_r7 ++ (wsX5_priceOf_r8 ++ wsX5_priceOf_r9)))))))) ++ wsX50 ++ wsX20 ++ wsX00 ++ wsX30 ++ (vx_atS RX5 273 "java/lang/IndexOutOfBoundsException" ["java/lang/RuntimeException", "java/lang/Exception"]).filter goodWord ++ (vx_atS RX5 218 "java/lang/IllegalStateException" ["java/lang/RuntimeException", "java/lang/Exception"]).filter goodWord)
def wsX5_driftNext_r1 : List Cond := [Cond.fieldLink RX5 36 "GreyReel" "viewer" "LGreyReel$Viewer;", Cond.fieldLink RX5 208 "GreyReel$Viewer" "shownPictures" "I", Cond.fieldLink RX5 242 "GreyReel$Viewer" "studio" "LGreyReel$Studio;", Cond.fieldLink RX5 246 "GreyReel$Studio" "made" "[I", Cond.fieldLink RX5 186 "GreyReel$Picture" "result" "[I", Cond.methodLink RX5 211 yX5_pictureOrNull, Cond.instanceMethod yX5_pictureOrNull, Cond.selects RX5 yX5_pictureOrNull yX5_pictureOrNull, Cond.initialized RX5, Cond.code yX5_pictureOrNull cX5_pictureOrNull 2 (some (.object "GreyReel$Picture")), Cond.fieldLink RX5 48 "GreyReel" "coded" "I", Cond.fieldLink RX5 15 "GreyReel" "reel" "[LGreyReel$Picture;", Cond.methodLink RX5 219 yX4_make, Cond.instanceMethod yX4_make, Cond.selects RX4 yX4_make yX4_make, Cond.initialized RX4, Cond.code yX4_make cX4_make 3 none, Cond.fieldLink RX4 12 "GreyReel$Viewer" "studio" "LGreyReel$Studio;", Cond.fieldLink RX4 18 "GreyReel$Viewer" "screen" "[I", Cond.fieldLink RX4 36 "GreyReel$Picture" "got" "[Z", Cond.fieldLink RX4 42 "GreyReel$Picture" "kind" "[I", Cond.fieldLink RX4 45 "GreyReel$Picture" "vx" "[I", Cond.fieldLink RX4 48 "GreyReel$Picture" "vy" "[I", Cond.fieldLink RX4 55 "GreyReel$Picture" "q" "I"]
def wsX5_driftNext_r2 : List Cond := [Cond.fieldLink RX4 58 "GreyReel$Picture" "level" "[I", Cond.fieldLink RX4 69 "GreyReel$Picture" "isSmoothed" "Z", Cond.methodLink RX4 32 yX3_lookAhead, Cond.instanceMethod yX3_lookAhead, Cond.selects RX3 yX3_lookAhead yX3_lookAhead, Cond.initialized RX3, Cond.code yX3_lookAhead cX3_lookAhead 5 none, Cond.fieldLink RX3 11 "GreyReel$Studio" "ahead" "[I", Cond.static yX5_onRow, Cond.code yX5_onRow cX5_onRow 2 (some .int), Cond.methodLink RX5 92 Lib.Math.min.name, Cond.static Lib.Math.min.name, Cond.initialized "java/lang/Math", Cond.code Lib.Math.min.name Lib.Math.min.code 2 (some .int), Cond.methodLink RX5 86 Lib.Math.max.name, Cond.static Lib.Math.max.name, Cond.code Lib.Math.max.name Lib.Math.max.code 2 (some .int), Cond.methodLink RX4 51 yX3_foretell, Cond.instanceMethod yX3_foretell, Cond.selects RX3 yX3_foretell yX3_foretell, Cond.code yX3_foretell cX3_foretell 5 none, Cond.methodLink RX3 28 yX3_foretellMoved, Cond.instanceMethod yX3_foretellMoved, Cond.selects RX3 yX3_foretellMoved yX3_foretellMoved]
def wsX5_driftNext_r3 : List Cond := [Cond.code yX3_foretellMoved cX3_foretellMoved 9 none, Cond.fieldLink RX3 21 "GreyReel$Studio" "foretold" "[I", Cond.methodLink RX3 42 yX3_startAhead, Cond.instanceMethod yX3_startAhead, Cond.selects RX3 yX3_startAhead yX3_startAhead, Cond.code yX3_startAhead cX3_startAhead 8 (some .int), Cond.methodLink RX3 46 yX3_between, Cond.instanceMethod yX3_between, Cond.selects RX3 yX3_between yX3_between, Cond.code yX3_between cX3_between 6 (some .int), Cond.methodLink RX3 32 yX3_foretellFlat, Cond.instanceMethod yX3_foretellFlat, Cond.selects RX3 yX3_foretellFlat yX3_foretellFlat, Cond.code yX3_foretellFlat cX3_foretellFlat 6 none, Cond.fieldLink RX3 18 "GreyReel$Studio" "made" "[I", Cond.static yX5_isFirstOfBand, Cond.code yX5_isFirstOfBand cX5_isFirstOfBand 1 (some .boolean), Cond.static yX5_firstPointOf, Cond.code yX5_firstPointOf cX5_firstPointOf 1 (some .int), Cond.methodLink RX3 62 yJ7_fill_53178, Cond.static yJ7_fill_53178, Cond.initialized RJ7, Cond.code yJ7_fill_53178 cJ7_fill_53178 4 none, Cond.methodLink RX3 36 yX3_foretellLeft]
def wsX5_driftNext_r4 : List Cond := [Cond.instanceMethod yX3_foretellLeft, Cond.selects RX3 yX3_foretellLeft yX3_foretellLeft, Cond.code yX3_foretellLeft cX3_foretellLeft 4 none, Cond.methodLink RX3 39 yX3_foretellTrend, Cond.instanceMethod yX3_foretellTrend, Cond.selects RX3 yX3_foretellTrend yX3_foretellTrend, Cond.code yX3_foretellTrend cX3_foretellTrend 6 none, Cond.static yX5_clip, Cond.code yX5_clip cX5_clip 1 (some .int), Cond.methodLink RX4 61 yX3_makeBlock, Cond.instanceMethod yX3_makeBlock, Cond.selects RX3 yX3_makeBlock yX3_makeBlock, Cond.code yX3_makeBlock cX3_makeBlock 8 none, Cond.fieldLink RX3 15 "GreyReel$Studio" "quarterNumbers" "[I", Cond.fieldLink RX3 80 "GreyReel$Studio" "ORDER" "[I", Cond.methodLink RX3 77 yX3_turnQuarter, Cond.instanceMethod yX3_turnQuarter, Cond.selects RX3 yX3_turnQuarter yX3_turnQuarter, Cond.code yX3_turnQuarter cX3_turnQuarter 2 none, Cond.methodLink RX3 86 yX3_turnFour, Cond.instanceMethod yX3_turnFour, Cond.selects RX3 yX3_turnFour yX3_turnFour, Cond.code yX3_turnFour cX3_turnFour 7 none, Cond.methodLink RX3 71 yX3_placeInBlock]
def wsX5_driftNext_r5 : List Cond := [Cond.static yX3_placeInBlock, Cond.code yX3_placeInBlock cX3_placeInBlock 4 (some .int), Cond.methodLink RX3 74 yX3_pointOf, Cond.static yX3_pointOf, Cond.code yX3_pointOf cX3_pointOf 2 (some .int), Cond.methodLink RX4 65 yX4_conceal, Cond.instanceMethod yX4_conceal, Cond.selects RX4 yX4_conceal yX4_conceal, Cond.code yX4_conceal cX4_conceal 7 none, Cond.methodLink RX4 81 yX3_makeForetold, Cond.instanceMethod yX3_makeForetold, Cond.selects RX3 yX3_makeForetold yX3_makeForetold, Cond.code yX3_makeForetold cX3_makeForetold 3 none, Cond.methodLink RX4 73 yX2_bandsGot, Cond.instanceMethod yX2_bandsGot, Cond.selects RX2 yX2_bandsGot yX2_bandsGot, Cond.initialized RX2, Cond.code yX2_bandsGot cX2_bandsGot 3 (some .int), Cond.fieldLink RX2 33 "GreyReel$Picture" "got" "[Z", Cond.methodLink RX4 77 yX3_smooth, Cond.instanceMethod yX3_smooth, Cond.selects RX3 yX3_smooth yX3_smooth, Cond.code yX3_smooth cX3_smooth 4 none, Cond.methodLink RX3 90 yX3_smoothAcross]
def wsX5_driftNext_r6 : List Cond := [Cond.instanceMethod yX3_smoothAcross, Cond.selects RX3 yX3_smoothAcross yX3_smoothAcross, Cond.code yX3_smoothAcross cX3_smoothAcross 10 none, Cond.methodLink RX3 53 Lib.Math.abs.name, Cond.static Lib.Math.abs.name, Cond.code Lib.Math.abs.name Lib.Math.abs.code 1 (some .int), Cond.methodLink RX5 231 yX5_distance, Cond.static yX5_distance, Cond.code yX5_distance cX5_distance 4 (some .int), Cond.methodLink RX5 274 Lib.Math.abs.name]
def wsX5_driftNext : List Cond := .code yX5_driftNext cX5_driftNext 2 (some .int) :: ((wsX5_driftNext_r1 ++ (wsX5_driftNext_r2 ++ (wsX5_driftNext_r3 ++ (wsX5_driftNext_r4 ++ (wsX5_driftNext_r5 ++ wsX5_driftNext_r6))))) ++ wsX50 ++ wsX40 ++ wsX30 ++ wsX20)
def wsX5_bytesOfAll_r1 : List Cond := [Cond.fieldLink RX5 48 "GreyReel" "coded" "I", Cond.methodLink RX5 161 yX5_pictureAt, Cond.instanceMethod yX5_pictureAt, Cond.selects RX5 yX5_pictureAt yX5_pictureAt, Cond.initialized RX5, Cond.code yX5_pictureAt cX5_pictureAt 3 (some (.object "GreyReel$Picture")), Cond.classLink RX5 269 "java/lang/IndexOutOfBoundsException", Cond.initialized "java/lang/IndexOutOfBoundsException", Cond.methodLink RX5 211 yX5_pictureOrNull, Cond.instanceMethod yX5_pictureOrNull, Cond.selects RX5 yX5_pictureOrNull yX5_pictureOrNull, Cond.code yX5_pictureOrNull cX5_pictureOrNull 2 (some (.object "GreyReel$Picture")), Cond.fieldLink RX5 15 "GreyReel" "reel" "[LGreyReel$Picture;", Cond.methodLink RX5 144 yX2_bytesInAll, Cond.instanceMethod yX2_bytesInAll, Cond.selects RX2 yX2_bytesInAll yX2_bytesInAll, Cond.initialized RX2, Cond.code yX2_bytesInAll cX2_bytesInAll 1 (some .int), Cond.methodLink RX2 61 yX2_firstByteOf, Cond.instanceMethod yX2_firstByteOf, Cond.selects RX2 yX2_firstByteOf yX2_firstByteOf, Cond.code yX2_firstByteOf cX2_firstByteOf 4 (some .int), Cond.methodLink RX2 57 yX2_bytesIn, Cond.instanceMethod yX2_bytesIn]
def wsX5_bytesOfAll_r2 : List Cond := [Cond.selects RX2 yX2_bytesIn yX2_bytesIn, Cond.code yX2_bytesIn cX2_bytesIn 2 (some .int), Cond.fieldLink RX2 30 "GreyReel$Picture" "usedBits" "[I"]
def wsX5_bytesOfAll : List Cond := .code yX5_bytesOfAll cX5_bytesOfAll 3 (some .int) :: ((wsX5_bytesOfAll_r1 ++ wsX5_bytesOfAll_r2) ++ wsX50 ++ wsX20 ++ (vx_atS RX5 273 "java/lang/IndexOutOfBoundsException" ["java/lang/RuntimeException", "java/lang/Exception"]).filter goodWord)
def wsX5_meanError : List Cond := .code yX5_meanError cX5_meanError 4 (some .double) :: ([.fieldLink RX5 48 "GreyReel" "coded" "I", .fieldLink RX5 189 "GreyReel$Picture" "error" "I", .methodLink RX5 161 yX5_pictureAt, .instanceMethod yX5_pictureAt, .selects RX5 yX5_pictureAt yX5_pictureAt, .initialized RX5, .code yX5_pictureAt cX5_pictureAt 3 (some (.object "GreyReel$Picture")), .classLink RX5 269 "java/lang/IndexOutOfBoundsException", .initialized "java/lang/IndexOutOfBoundsException", .methodLink RX5 211 yX5_pictureOrNull, .instanceMethod yX5_pictureOrNull, .selects RX5 yX5_pictureOrNull yX5_pictureOrNull, .code yX5_pictureOrNull cX5_pictureOrNull 2 (some (.object "GreyReel$Picture")), .fieldLink RX5 15 "GreyReel" "reel" "[LGreyReel$Picture;"] ++ wsX50 ++ wsX20 ++ (vx_atS RX5 273 "java/lang/IndexOutOfBoundsException" ["java/lang/RuntimeException", "java/lang/Exception"]).filter goodWord)
def wsX5_digestPoints : List Cond := .code yX5_digestPoints cX5_digestPoints 6 (some .long) :: ([.constantLong RX5 253 (31)])
def wsX5_digest_r1 : List Cond := [Cond.constantLong RX5 251 (58019), Cond.constantLong RX5 253 (31), Cond.fieldLink RX5 48 "GreyReel" "coded" "I", Cond.fieldLink RX5 55 "GreyReel" "nextStep" "I", Cond.fieldLink RX5 36 "GreyReel" "viewer" "LGreyReel$Viewer;", Cond.fieldLink RX5 208 "GreyReel$Viewer" "shownPictures" "I", Cond.fieldLink RX5 9 "GreyReel" "canvas" "[I", Cond.fieldLink RX5 186 "GreyReel$Picture" "result" "[I", Cond.fieldLink RX5 228 "GreyReel$Viewer" "screen" "[I", Cond.methodLink RX5 255 yX5_drift, Cond.instanceMethod yX5_drift, Cond.selects RX5 yX5_drift yX5_drift, Cond.initialized RX5, Cond.code yX5_drift cX5_drift 2 (some .int), Cond.methodLink RX5 211 yX5_pictureOrNull, Cond.instanceMethod yX5_pictureOrNull, Cond.selects RX5 yX5_pictureOrNull yX5_pictureOrNull, Cond.code yX5_pictureOrNull cX5_pictureOrNull 2 (some (.object "GreyReel$Picture")), Cond.fieldLink RX5 15 "GreyReel" "reel" "[LGreyReel$Picture;", Cond.methodLink RX5 231 yX5_distance, Cond.static yX5_distance, Cond.code yX5_distance cX5_distance 4 (some .int), Cond.methodLink RX5 274 Lib.Math.abs.name, Cond.static Lib.Math.abs.name]
def wsX5_digest_r2 : List Cond := [Cond.initialized "java/lang/Math", Cond.code Lib.Math.abs.name Lib.Math.abs.code 1 (some .int), Cond.methodLink RX5 258 yX5_bytesOfAll, Cond.instanceMethod yX5_bytesOfAll, Cond.selects RX5 yX5_bytesOfAll yX5_bytesOfAll, Cond.code yX5_bytesOfAll cX5_bytesOfAll 3 (some .int), Cond.methodLink RX5 161 yX5_pictureAt, Cond.instanceMethod yX5_pictureAt, Cond.selects RX5 yX5_pictureAt yX5_pictureAt, Cond.code yX5_pictureAt cX5_pictureAt 3 (some (.object "GreyReel$Picture")), Cond.classLink RX5 269 "java/lang/IndexOutOfBoundsException", Cond.initialized "java/lang/IndexOutOfBoundsException", Cond.methodLink RX5 144 yX2_bytesInAll, Cond.instanceMethod yX2_bytesInAll, Cond.selects RX2 yX2_bytesInAll yX2_bytesInAll, Cond.initialized RX2, Cond.code yX2_bytesInAll cX2_bytesInAll 1 (some .int), Cond.methodLink RX2 61 yX2_firstByteOf, Cond.instanceMethod yX2_firstByteOf, Cond.selects RX2 yX2_firstByteOf yX2_firstByteOf, Cond.code yX2_firstByteOf cX2_firstByteOf 4 (some .int), Cond.methodLink RX2 57 yX2_bytesIn, Cond.instanceMethod yX2_bytesIn, Cond.selects RX2 yX2_bytesIn yX2_bytesIn]
def wsX5_digest_r3 : List Cond := [Cond.code yX2_bytesIn cX2_bytesIn 2 (some .int), Cond.fieldLink RX2 30 "GreyReel$Picture" "usedBits" "[I", Cond.methodLink RX5 261 yX2_digestOn, Cond.instanceMethod yX2_digestOn, Cond.selects RX2 yX2_digestOn yX2_digestOn, Cond.code yX2_digestOn cX2_digestOn 6 (some .long), Cond.constantLong RX2 71 (31), Cond.fieldLink RX2 50 "GreyReel$Picture" "isKeyPicture" "Z", Cond.fieldLink RX2 44 "GreyReel$Picture" "q" "I", Cond.fieldLink RX2 47 "GreyReel$Picture" "error" "I", Cond.fieldLink RX2 9 "GreyReel$Picture" "kind" "[I", Cond.fieldLink RX2 15 "GreyReel$Picture" "vx" "[I", Cond.fieldLink RX2 18 "GreyReel$Picture" "vy" "[I", Cond.methodLink RX2 73 yX2_levelsNotZero, Cond.instanceMethod yX2_levelsNotZero, Cond.selects RX2 yX2_levelsNotZero yX2_levelsNotZero, Cond.code yX2_levelsNotZero cX2_levelsNotZero 4 (some .int), Cond.fieldLink RX2 24 "GreyReel$Picture" "level" "[I", Cond.methodLink RX2 76 yX2_digestPacket, Cond.instanceMethod yX2_digestPacket, Cond.selects RX2 yX2_digestPacket yX2_digestPacket, Cond.code yX2_digestPacket cX2_digestPacket 8 (some .long), Cond.fieldLink RX2 33 "GreyReel$Picture" "got" "[Z", Cond.fieldLink RX2 37 "GreyReel$Picture" "row" "[I"]
def wsX5_digest_r4 : List Cond := [Cond.methodLink RX5 265 yX5_digestPoints, Cond.static yX5_digestPoints, Cond.code yX5_digestPoints cX5_digestPoints 6 (some .long)]
def wsX5_digest : List Cond := .code yX5_digest cX5_digest 4 (some .long) :: ((wsX5_digest_r1 ++ (wsX5_digest_r2 ++ (wsX5_digest_r3 ++ wsX5_digest_r4))) ++ wsX50 ++ wsX40 ++ wsX20 ++ (vx_atS RX5 273 "java/lang/IndexOutOfBoundsException" ["java/lang/RuntimeException", "java/lang/Exception"]).filter goodWord)
def wsJ9_abs_0f7a4 : List Cond := .code yJ9_abs_0f7a4 cJ9_abs_0f7a4 1 (some .int) :: ([])
def wsJ9_max_7cf53 : List Cond := .code yJ9_max_7cf53 cJ9_max_7cf53 2 (some .int) :: ([])
def wsJ9_min_7cf53 : List Cond := .code yJ9_min_7cf53 cJ9_min_7cf53 2 (some .int) :: ([])
def wsL_below : List Cond := .code yL_below cL_below 2 (some .int) :: ([.constant RL 7 (2147483647)])
def wsL_cell : List Cond := .code yL_cell cL_cell 2 (some .int) :: ([.constant RL 8 (790386105)])
def wsL_paint_r1 : List Cond := [Cond.constant RL 25 (65536), Cond.methodLink RL 9 yL_below, Cond.static yL_below, Cond.initialized RL, Cond.code yL_below cL_below 2 (some .int), Cond.constant RL 7 (2147483647), Cond.methodLink RL 15 yX5_box, Cond.instanceMethod yX5_box, Cond.selects RX5 yX5_box yX5_box, Cond.initialized RX5, Cond.code yX5_box cX5_box 9 (some .int), Cond.classLink RX5 75 "java/lang/IllegalArgumentException", Cond.initialized "java/lang/IllegalArgumentException", Cond.methodLink RX5 86 Lib.Math.max.name, Cond.static Lib.Math.max.name, Cond.initialized "java/lang/Math", Cond.code Lib.Math.max.name Lib.Math.max.code 2 (some .int), Cond.methodLink RX5 92 Lib.Math.min.name, Cond.static Lib.Math.min.name, Cond.code Lib.Math.min.name Lib.Math.min.code 2 (some .int), Cond.fieldLink RX5 9 "GreyReel" "canvas" "[I", Cond.methodLink RX5 71 yX5_isWithin, Cond.static yX5_isWithin, Cond.code yX5_isWithin cX5_isWithin 3 (some .boolean)]
def wsL_paint_r2 : List Cond := [Cond.methodLink RL 21 yX5_ramp, Cond.instanceMethod yX5_ramp, Cond.selects RX5 yX5_ramp yX5_ramp, Cond.code yX5_ramp cX5_ramp 7 (some .int), Cond.methodLink RX5 99 yX5_clip, Cond.static yX5_clip, Cond.code yX5_clip cX5_clip 1 (some .int), Cond.methodLink RL 26 yX5_noise, Cond.instanceMethod yX5_noise, Cond.selects RX5 yX5_noise yX5_noise, Cond.code yX5_noise cX5_noise 5 (some .int), Cond.constant RX5 103 (65535), Cond.constant RX5 108 (65536), Cond.methodLink RL 29 yX5_shift, Cond.instanceMethod yX5_shift, Cond.selects RX5 yX5_shift yX5_shift, Cond.code yX5_shift cX5_shift 7 (some .int), Cond.fieldLink RX5 40 "GreyReel" "canvasBefore" "[I", Cond.methodLink RX5 111 arraycopyName, Cond.native arraycopyName, Cond.static arraycopyName, Cond.initialized "java/lang/System", Cond.methodLink RX5 117 yX5_onRow, Cond.static yX5_onRow]
def wsL_paint_r3 : List Cond := [Cond.code yX5_onRow cX5_onRow 2 (some .int), Cond.methodLink RL 32 yX5_fill, Cond.instanceMethod yX5_fill, Cond.selects RX5 yX5_fill yX5_fill, Cond.code yX5_fill cX5_fill 4 (some .int)]
def wsL_paint : List Cond := .code yL_paint cL_paint 3 none :: ((wsL_paint_r1 ++ (wsL_paint_r2 ++ wsL_paint_r3)) ++ wsX50 ++ (vx_atS RX5 79 "java/lang/IllegalArgumentException" ["java/lang/RuntimeException", "java/lang/Exception"]).filter goodWord)
def wsL_isSound_r1 : List Cond := [Cond.methodLink RL 52 Lib.Math.abs.name, Cond.static Lib.Math.abs.name, Cond.initialized "java/lang/Math", Cond.code Lib.Math.abs.name Lib.Math.abs.code 1 (some .int), Cond.methodLink RL 36 yX5_kindOf, Cond.instanceMethod yX5_kindOf, Cond.selects RX5 yX5_kindOf yX5_kindOf, Cond.initialized RX5, Cond.code yX5_kindOf cX5_kindOf 3 (some .int), Cond.fieldLink RX5 168 "GreyReel$Picture" "kind" "[I", Cond.methodLink RX5 161 yX5_pictureAt, Cond.instanceMethod yX5_pictureAt, Cond.selects RX5 yX5_pictureAt yX5_pictureAt, Cond.code yX5_pictureAt cX5_pictureAt 3 (some (.object "GreyReel$Picture")), Cond.classLink RX5 269 "java/lang/IndexOutOfBoundsException", Cond.initialized "java/lang/IndexOutOfBoundsException", Cond.methodLink RX5 211 yX5_pictureOrNull, Cond.instanceMethod yX5_pictureOrNull, Cond.selects RX5 yX5_pictureOrNull yX5_pictureOrNull, Cond.code yX5_pictureOrNull cX5_pictureOrNull 2 (some (.object "GreyReel$Picture")), Cond.fieldLink RX5 48 "GreyReel" "coded" "I", Cond.fieldLink RX5 15 "GreyReel" "reel" "[LGreyReel$Picture;", Cond.methodLink RX5 171 yX5_placeIn, Cond.static yX5_placeIn]
def wsL_isSound_r2 : List Cond := [Cond.code yX5_placeIn cX5_placeIn 2 (some .int), Cond.methodLink RL 39 yX5_levels, Cond.instanceMethod yX5_levels, Cond.selects RX5 yX5_levels yX5_levels, Cond.code yX5_levels cX5_levels 3 (some .int), Cond.methodLink RX5 180 yX2_levelsNotZero, Cond.instanceMethod yX2_levelsNotZero, Cond.selects RX2 yX2_levelsNotZero yX2_levelsNotZero, Cond.initialized RX2, Cond.code yX2_levelsNotZero cX2_levelsNotZero 4 (some .int), Cond.fieldLink RX2 24 "GreyReel$Picture" "level" "[I", Cond.methodLink RL 42 yX5_isKey, Cond.instanceMethod yX5_isKey, Cond.selects RX5 yX5_isKey yX5_isKey, Cond.code yX5_isKey cX5_isKey 2 (some .boolean), Cond.fieldLink RX5 155 "GreyReel$Picture" "isKeyPicture" "Z", Cond.methodLink RL 46 yX5_vectorX, Cond.instanceMethod yX5_vectorX, Cond.selects RX5 yX5_vectorX yX5_vectorX, Cond.code yX5_vectorX cX5_vectorX 3 (some .int), Cond.fieldLink RX5 174 "GreyReel$Picture" "vx" "[I", Cond.methodLink RL 49 yX5_vectorY, Cond.instanceMethod yX5_vectorY, Cond.selects RX5 yX5_vectorY yX5_vectorY]
def wsL_isSound_r3 : List Cond := [Cond.code yX5_vectorY cX5_vectorY 3 (some .int), Cond.fieldLink RX5 177 "GreyReel$Picture" "vy" "[I", Cond.methodLink RL 57 yX5_bits, Cond.instanceMethod yX5_bits, Cond.selects RX5 yX5_bits yX5_bits, Cond.code yX5_bits cX5_bits 3 (some .int), Cond.fieldLink RX5 195 "GreyReel$Picture" "usedBits" "[I", Cond.methodLink RL 60 yX5_bytes, Cond.instanceMethod yX5_bytes, Cond.selects RX5 yX5_bytes yX5_bytes, Cond.code yX5_bytes cX5_bytes 3 (some .int), Cond.methodLink RX5 192 yX2_bytesIn, Cond.instanceMethod yX2_bytesIn, Cond.selects RX2 yX2_bytesIn yX2_bytesIn, Cond.code yX2_bytesIn cX2_bytesIn 2 (some .int), Cond.fieldLink RX2 30 "GreyReel$Picture" "usedBits" "[I", Cond.methodLink RL 63 yX5_byteAt, Cond.instanceMethod yX5_byteAt, Cond.selects RX5 yX5_byteAt yX5_byteAt, Cond.code yX5_byteAt cX5_byteAt 7 (some .int), Cond.fieldLink RX5 152 "GreyReel$Picture" "row" "[I", Cond.methodLink RX5 198 yX2_firstByteOf, Cond.instanceMethod yX2_firstByteOf, Cond.selects RX2 yX2_firstByteOf yX2_firstByteOf]
def wsL_isSound_r4 : List Cond := [Cond.code yX2_firstByteOf cX2_firstByteOf 4 (some .int), Cond.methodLink RX2 57 yX2_bytesIn, Cond.methodLink RL 66 yX5_errorOf, Cond.instanceMethod yX5_errorOf, Cond.selects RX5 yX5_errorOf yX5_errorOf, Cond.code yX5_errorOf cX5_errorOf 2 (some .int), Cond.fieldLink RX5 189 "GreyReel$Picture" "error" "I"]
def wsL_isSound : List Cond := .code yL_isSound cL_isSound 6 (some .boolean) :: ((wsL_isSound_r1 ++ (wsL_isSound_r2 ++ (wsL_isSound_r3 ++ wsL_isSound_r4))) ++ wsX20 ++ wsX50 ++ (vx_atS RX5 273 "java/lang/IndexOutOfBoundsException" ["java/lang/RuntimeException", "java/lang/Exception"]).filter goodWord)
def wsL_law0_r1 : List Cond := [Cond.classLink RL 16 RX5, Cond.instantiable RX5 14, Cond.initialized RX5, Cond.methodLink RL 69 yX5_init, Cond.instanceMethod yX5_init, Cond.code yX5_init cX5_init 1 none, Cond.methodLink RX5 3 objectInit, Cond.instanceMethod objectInit, Cond.code objectInit ⟨#[0xb1]⟩ 1 none, Cond.arrayClass .int, Cond.fieldLink RX5 9 "GreyReel" "canvas" "[I", Cond.classLink RX5 13 RX2, Cond.fieldLink RX5 15 "GreyReel" "reel" "[LGreyReel$Picture;", Cond.classLink RX5 19 RX0, Cond.instantiable RX0 5, Cond.initialized RX0, Cond.fieldLink RX5 22 "GreyReel" "coder" "LGreyReel$Coder;", Cond.classLink RX5 26 RX1, Cond.instantiable RX1 4, Cond.initialized RX1, Cond.fieldLink RX5 29 "GreyReel" "writer" "LGreyReel$PacketWriter;", Cond.classLink RX5 33 RX4, Cond.instantiable RX4 3, Cond.initialized RX4]
def wsL_law0_r2 : List Cond := [Cond.fieldLink RX5 36 "GreyReel" "viewer" "LGreyReel$Viewer;", Cond.fieldLink RX5 40 "GreyReel" "canvasBefore" "[I", Cond.instantiable RX2 14, Cond.initialized RX2, Cond.fieldLink RX5 44 "GreyReel" "draft" "LGreyReel$Picture;", Cond.fieldLink RX5 48 "GreyReel" "coded" "I", Cond.fieldLink RX5 52 "GreyReel" "deltasBehindKey" "I", Cond.fieldLink RX5 55 "GreyReel" "nextStep" "I", Cond.fieldLink RX5 58 "GreyReel" "bytesWanted" "I", Cond.fieldLink RX5 61 "GreyReel" "keyInterval" "I", Cond.fieldLink RX5 64 "GreyReel" "isSmoothing" "Z", Cond.fieldLink RX5 68 "GreyReel" "isKeyAsked" "Z", Cond.instanceMethod yX0_init, Cond.code yX0_init cX0_init 1 none, Cond.methodLink RX0 3 objectInit, Cond.classLink RX0 9 RX3, Cond.instantiable RX3 4, Cond.initialized RX3, Cond.fieldLink RX0 12 "GreyReel$Coder" "studio" "LGreyReel$Studio;", Cond.fieldLink RX0 18 "GreyReel$Coder" "bestKind" "I", Cond.fieldLink RX0 22 "GreyReel$Coder" "bestX" "I", Cond.fieldLink RX0 25 "GreyReel$Coder" "bestY" "I", Cond.fieldLink RX0 28 "GreyReel$Coder" "bestPrice" "I", Cond.instanceMethod yX3_init]
def wsL_law0_r3 : List Cond := [Cond.code yX3_init cX3_init 1 none, Cond.methodLink RX3 5 objectInit, Cond.fieldLink RX3 11 "GreyReel$Studio" "ahead" "[I", Cond.fieldLink RX3 15 "GreyReel$Studio" "quarterNumbers" "[I", Cond.fieldLink RX3 18 "GreyReel$Studio" "made" "[I", Cond.fieldLink RX3 21 "GreyReel$Studio" "foretold" "[I", Cond.instanceMethod yX1_init, Cond.code yX1_init cX1_init 1 none, Cond.methodLink RX1 3 objectInit, Cond.fieldLink RX1 11 "GreyReel$PacketWriter" "row" "[I", Cond.fieldLink RX1 15 "GreyReel$PacketWriter" "kindRow" "[I", Cond.fieldLink RX1 18 "GreyReel$PacketWriter" "mean" "[I", Cond.fieldLink RX1 21 "GreyReel$PacketWriter" "bitsWritten" "I", Cond.methodLink RX5 35 yX4_init, Cond.instanceMethod yX4_init, Cond.code yX4_init cX4_init 1 none, Cond.methodLink RX4 3 objectInit, Cond.classLink RX4 9 RX3, Cond.fieldLink RX4 12 "GreyReel$Viewer" "studio" "LGreyReel$Studio;", Cond.fieldLink RX4 18 "GreyReel$Viewer" "screen" "[I", Cond.fieldLink RX4 22 "GreyReel$Viewer" "shownPictures" "I", Cond.methodLink RX4 26 yJ7_fill_53178, Cond.static yJ7_fill_53178, Cond.initialized RJ7]
def wsL_law0_r4 : List Cond := [Cond.code yJ7_fill_53178 cJ7_fill_53178 4 none, Cond.instanceMethod yX2_init, Cond.code yX2_init cX2_init 1 none, Cond.methodLink RX2 3 objectInit, Cond.fieldLink RX2 9 "GreyReel$Picture" "kind" "[I", Cond.fieldLink RX2 15 "GreyReel$Picture" "vx" "[I", Cond.fieldLink RX2 18 "GreyReel$Picture" "vy" "[I", Cond.fieldLink RX2 21 "GreyReel$Picture" "price" "[I", Cond.fieldLink RX2 24 "GreyReel$Picture" "level" "[I", Cond.fieldLink RX2 27 "GreyReel$Picture" "result" "[I", Cond.fieldLink RX2 30 "GreyReel$Picture" "usedBits" "[I", Cond.arrayClass .boolean, Cond.fieldLink RX2 33 "GreyReel$Picture" "got" "[Z", Cond.fieldLink RX2 37 "GreyReel$Picture" "row" "[I", Cond.fieldLink RX2 40 "GreyReel$Picture" "number" "I", Cond.fieldLink RX2 44 "GreyReel$Picture" "q" "I", Cond.fieldLink RX2 47 "GreyReel$Picture" "error" "I", Cond.fieldLink RX2 50 "GreyReel$Picture" "isKeyPicture" "Z", Cond.fieldLink RX2 54 "GreyReel$Picture" "isSmoothed" "Z", Cond.methodLink RL 70 yL_cell, Cond.static yL_cell, Cond.initialized RL, Cond.code yL_cell cL_cell 2 (some .int), Cond.constant RL 8 (790386105)]
def wsL_law0_r5 : List Cond := [Cond.methodLink RL 9 yL_below, Cond.static yL_below, Cond.code yL_below cL_below 2 (some .int), Cond.constant RL 7 (2147483647), Cond.methodLink RL 74 yL_paint, Cond.static yL_paint, Cond.code yL_paint cL_paint 3 none, Cond.constant RL 25 (65536), Cond.methodLink RL 15 yX5_box, Cond.instanceMethod yX5_box, Cond.selects RX5 yX5_box yX5_box, Cond.code yX5_box cX5_box 9 (some .int), Cond.classLink RX5 75 "java/lang/IllegalArgumentException", Cond.initialized "java/lang/IllegalArgumentException", Cond.methodLink RX5 86 Lib.Math.max.name, Cond.static Lib.Math.max.name, Cond.initialized "java/lang/Math", Cond.code Lib.Math.max.name Lib.Math.max.code 2 (some .int), Cond.methodLink RX5 92 Lib.Math.min.name, Cond.static Lib.Math.min.name, Cond.code Lib.Math.min.name Lib.Math.min.code 2 (some .int), Cond.methodLink RX5 71 yX5_isWithin, Cond.static yX5_isWithin, Cond.code yX5_isWithin cX5_isWithin 3 (some .boolean)]
def wsL_law0_r6 : List Cond := [Cond.methodLink RL 21 yX5_ramp, Cond.instanceMethod yX5_ramp, Cond.selects RX5 yX5_ramp yX5_ramp, Cond.code yX5_ramp cX5_ramp 7 (some .int), Cond.methodLink RX5 99 yX5_clip, Cond.static yX5_clip, Cond.code yX5_clip cX5_clip 1 (some .int), Cond.methodLink RL 26 yX5_noise, Cond.instanceMethod yX5_noise, Cond.selects RX5 yX5_noise yX5_noise, Cond.code yX5_noise cX5_noise 5 (some .int), Cond.constant RX5 103 (65535), Cond.constant RX5 108 (65536), Cond.methodLink RL 29 yX5_shift, Cond.instanceMethod yX5_shift, Cond.selects RX5 yX5_shift yX5_shift, Cond.code yX5_shift cX5_shift 7 (some .int), Cond.methodLink RX5 111 arraycopyName, Cond.native arraycopyName, Cond.static arraycopyName, Cond.initialized "java/lang/System", Cond.methodLink RX5 117 yX5_onRow, Cond.static yX5_onRow, Cond.code yX5_onRow cX5_onRow 2 (some .int)]
def wsL_law0_r7 : List Cond := [Cond.methodLink RL 32 yX5_fill, Cond.instanceMethod yX5_fill, Cond.selects RX5 yX5_fill yX5_fill, Cond.code yX5_fill cX5_fill 4 (some .int), Cond.methodLink RL 78 yX5_setStep, Cond.instanceMethod yX5_setStep, Cond.selects RX5 yX5_setStep yX5_setStep, Cond.code yX5_setStep cX5_setStep 3 (some .int), Cond.methodLink RL 81 yX5_setSmoothing, Cond.instanceMethod yX5_setSmoothing, Cond.selects RX5 yX5_setSmoothing yX5_setSmoothing, Cond.code yX5_setSmoothing cX5_setSmoothing 3 (some .boolean), Cond.methodLink RL 85 yX5_askKey, Cond.instanceMethod yX5_askKey, Cond.selects RX5 yX5_askKey yX5_askKey, Cond.code yX5_askKey cX5_askKey 2 (some .boolean), Cond.methodLink RX5 129 yX5_isKeyDue, Cond.instanceMethod yX5_isKeyDue, Cond.selects RX5 yX5_isKeyDue yX5_isKeyDue, Cond.code yX5_isKeyDue cX5_isKeyDue 1 (some .boolean), Cond.methodLink RL 89 yX5_setTarget, Cond.instanceMethod yX5_setTarget, Cond.selects RX5 yX5_setTarget yX5_setTarget, Cond.code yX5_setTarget cX5_setTarget 3 (some .int)]
def wsL_law0_r8 : List Cond := [Cond.methodLink RL 92 yX5_step, Cond.instanceMethod yX5_step, Cond.selects RX5 yX5_step yX5_step, Cond.code yX5_step cX5_step 1 (some .int), Cond.methodLink RL 96 yX5_bytesWith, Cond.instanceMethod yX5_bytesWith, Cond.selects RX5 yX5_bytesWith yX5_bytesWith, Cond.code yX5_bytesWith cX5_bytesWith 2 (some .int), Cond.methodLink RX5 133 yX5_refuseIfFull, Cond.instanceMethod yX5_refuseIfFull, Cond.selects RX5 yX5_refuseIfFull yX5_refuseIfFull, Cond.code yX5_refuseIfFull cX5_refuseIfFull 1 none, Cond.classLink RX5 214 "java/lang/IllegalStateException", Cond.initialized "java/lang/IllegalStateException", Cond.methodLink RX5 136 yX5_draftNext, Cond.instanceMethod yX5_draftNext, Cond.selects RX5 yX5_draftNext yX5_draftNext, Cond.code yX5_draftNext cX5_draftNext 3 none, Cond.fieldLink RX5 281 "GreyReel$Coder" "studio" "LGreyReel$Studio;", Cond.fieldLink RX5 186 "GreyReel$Picture" "result" "[I", Cond.fieldLink RX5 286 "GreyReel$Picture" "number" "I", Cond.fieldLink RX5 165 "GreyReel$Picture" "q" "I", Cond.fieldLink RX5 289 "GreyReel$Picture" "isSmoothed" "Z", Cond.fieldLink RX5 155 "GreyReel$Picture" "isKeyPicture" "Z"]
def wsL_law0_r9 : List Cond := [Cond.methodLink RX5 211 yX5_pictureOrNull, Cond.instanceMethod yX5_pictureOrNull, Cond.selects RX5 yX5_pictureOrNull yX5_pictureOrNull, Cond.code yX5_pictureOrNull cX5_pictureOrNull 2 (some (.object "GreyReel$Picture")), Cond.methodLink RX5 282 yX3_lookAhead, Cond.instanceMethod yX3_lookAhead, Cond.selects RX3 yX3_lookAhead yX3_lookAhead, Cond.code yX3_lookAhead cX3_lookAhead 5 none, Cond.methodLink RX5 292 yX0_codeAll, Cond.instanceMethod yX0_codeAll, Cond.selects RX0 yX0_codeAll yX0_codeAll, Cond.code yX0_codeAll cX0_codeAll 6 none, Cond.fieldLink RX0 35 "GreyReel$Picture" "isSmoothed" "Z", Cond.fieldLink RX0 41 "GreyReel$Picture" "q" "I", Cond.fieldLink RX0 48 "GreyReel$Studio" "made" "[I", Cond.fieldLink RX0 52 "GreyReel$Picture" "result" "[I", Cond.fieldLink RX0 55 "GreyReel$Picture" "error" "I", Cond.methodLink RX0 31 yX0_codeBlock, Cond.instanceMethod yX0_codeBlock, Cond.selects RX0 yX0_codeBlock yX0_codeBlock, Cond.code yX0_codeBlock cX0_codeBlock 7 none, Cond.constant RX0 58 (1048576), Cond.fieldLink RX0 59 "GreyReel$Picture" "isKeyPicture" "Z", Cond.fieldLink RX0 77 "GreyReel$Picture" "level" "[I"]
def wsL_law0_r10 : List Cond := [Cond.fieldLink RX0 91 "GreyReel$Picture" "kind" "[I", Cond.fieldLink RX0 94 "GreyReel$Picture" "vx" "[I", Cond.fieldLink RX0 97 "GreyReel$Picture" "vy" "[I", Cond.fieldLink RX0 100 "GreyReel$Picture" "price" "[I", Cond.methodLink RX0 62 yX0_seekVector, Cond.instanceMethod yX0_seekVector, Cond.selects RX0 yX0_seekVector yX0_seekVector, Cond.code yX0_seekVector cX0_seekVector 8 none, Cond.methodLink RX0 107 yX0_tryVector, Cond.instanceMethod yX0_tryVector, Cond.selects RX0 yX0_tryVector yX0_tryVector, Cond.code yX0_tryVector cX0_tryVector 9 none, Cond.methodLink RX0 115 Lib.Math.abs.name, Cond.static Lib.Math.abs.name, Cond.code Lib.Math.abs.name Lib.Math.abs.code 1 (some .int), Cond.methodLink RX0 84 yX2_expectedX, Cond.instanceMethod yX2_expectedX, Cond.selects RX2 yX2_expectedX yX2_expectedX, Cond.code yX2_expectedX cX2_expectedX 2 (some .int), Cond.static yX5_isFirstOfBand, Cond.code yX5_isFirstOfBand cX5_isFirstOfBand 1 (some .boolean), Cond.methodLink RX0 88 yX2_expectedY, Cond.instanceMethod yX2_expectedY, Cond.selects RX2 yX2_expectedY yX2_expectedY]
def wsL_law0_r11 : List Cond := [Cond.code yX2_expectedY cX2_expectedY 2 (some .int), Cond.methodLink RX0 120 yX3_differenceMoved, Cond.instanceMethod yX3_differenceMoved, Cond.selects RX3 yX3_differenceMoved yX3_differenceMoved, Cond.code yX3_differenceMoved cX3_differenceMoved 14 (some .int), Cond.methodLink RX3 53 Lib.Math.abs.name, Cond.methodLink RX3 42 yX3_startAhead, Cond.instanceMethod yX3_startAhead, Cond.selects RX3 yX3_startAhead yX3_startAhead, Cond.code yX3_startAhead cX3_startAhead 8 (some .int), Cond.static yX5_firstPointOf, Cond.code yX5_firstPointOf cX5_firstPointOf 1 (some .int), Cond.methodLink RX3 46 yX3_between, Cond.instanceMethod yX3_between, Cond.selects RX3 yX3_between yX3_between, Cond.code yX3_between cX3_between 6 (some .int), Cond.methodLink RX0 124 yX0_take, Cond.instanceMethod yX0_take, Cond.selects RX0 yX0_take yX0_take, Cond.code yX0_take cX0_take 5 none, Cond.methodLink RX0 65 yX0_tryKind, Cond.instanceMethod yX0_tryKind, Cond.selects RX0 yX0_tryKind yX0_tryKind, Cond.code yX0_tryKind cX0_tryKind 6 none]
def wsL_law0_r12 : List Cond := [Cond.methodLink RX0 73 yX3_foretell, Cond.instanceMethod yX3_foretell, Cond.selects RX3 yX3_foretell yX3_foretell, Cond.code yX3_foretell cX3_foretell 5 none, Cond.methodLink RX3 28 yX3_foretellMoved, Cond.instanceMethod yX3_foretellMoved, Cond.selects RX3 yX3_foretellMoved yX3_foretellMoved, Cond.code yX3_foretellMoved cX3_foretellMoved 9 none, Cond.methodLink RX3 32 yX3_foretellFlat, Cond.instanceMethod yX3_foretellFlat, Cond.selects RX3 yX3_foretellFlat yX3_foretellFlat, Cond.code yX3_foretellFlat cX3_foretellFlat 6 none, Cond.methodLink RX3 62 yJ7_fill_53178, Cond.methodLink RX3 36 yX3_foretellLeft, Cond.instanceMethod yX3_foretellLeft, Cond.selects RX3 yX3_foretellLeft yX3_foretellLeft, Cond.code yX3_foretellLeft cX3_foretellLeft 4 none, Cond.methodLink RX3 39 yX3_foretellTrend, Cond.instanceMethod yX3_foretellTrend, Cond.selects RX3 yX3_foretellTrend yX3_foretellTrend, Cond.code yX3_foretellTrend cX3_foretellTrend 6 none, Cond.methodLink RX0 127 yX3_difference, Cond.instanceMethod yX3_difference, Cond.selects RX3 yX3_difference yX3_difference]
def wsL_law0_r13 : List Cond := [Cond.code yX3_difference cX3_difference 6 (some .int), Cond.methodLink RX0 80 yX3_measure, Cond.instanceMethod yX3_measure, Cond.selects RX3 yX3_measure yX3_measure, Cond.code yX3_measure cX3_measure 10 (some .boolean), Cond.fieldLink RX3 80 "GreyReel$Studio" "ORDER" "[I", Cond.methodLink RX3 71 yX3_placeInBlock, Cond.static yX3_placeInBlock, Cond.code yX3_placeInBlock cX3_placeInBlock 4 (some .int), Cond.methodLink RX3 74 yX3_pointOf, Cond.static yX3_pointOf, Cond.code yX3_pointOf cX3_pointOf 2 (some .int), Cond.methodLink RX3 77 yX3_turnQuarter, Cond.instanceMethod yX3_turnQuarter, Cond.selects RX3 yX3_turnQuarter yX3_turnQuarter, Cond.code yX3_turnQuarter cX3_turnQuarter 2 none, Cond.methodLink RX3 86 yX3_turnFour, Cond.instanceMethod yX3_turnFour, Cond.selects RX3 yX3_turnFour yX3_turnFour, Cond.code yX3_turnFour cX3_turnFour 7 none, Cond.methodLink RX3 83 yX3_levelOf, Cond.static yX3_levelOf, Cond.code yX3_levelOf cX3_levelOf 4 (some .int), Cond.methodLink RX0 103 yX3_makeBlock]
def wsL_law0_r14 : List Cond := [Cond.instanceMethod yX3_makeBlock, Cond.selects RX3 yX3_makeBlock yX3_makeBlock, Cond.code yX3_makeBlock cX3_makeBlock 8 none, Cond.methodLink RX0 44 yX3_smooth, Cond.instanceMethod yX3_smooth, Cond.selects RX3 yX3_smooth yX3_smooth, Cond.code yX3_smooth cX3_smooth 4 none, Cond.methodLink RX3 90 yX3_smoothAcross, Cond.instanceMethod yX3_smoothAcross, Cond.selects RX3 yX3_smoothAcross yX3_smoothAcross, Cond.code yX3_smoothAcross cX3_smoothAcross 10 none, Cond.methodLink RX5 296 yX2_freshBlocks, Cond.instanceMethod yX2_freshBlocks, Cond.selects RX2 yX2_freshBlocks yX2_freshBlocks, Cond.code yX2_freshBlocks cX2_freshBlocks 1 (some .int), Cond.methodLink RX2 64 yX2_blocksOf, Cond.instanceMethod yX2_blocksOf, Cond.selects RX2 yX2_blocksOf yX2_blocksOf, Cond.code yX2_blocksOf cX2_blocksOf 4 (some .int), Cond.methodLink RX5 140 yX1_write, Cond.instanceMethod yX1_write, Cond.selects RX1 yX1_write yX1_write, Cond.code yX1_write cX1_write 5 none, Cond.fieldLink RX1 47 "GreyReel$Picture" "usedBits" "[I"]
def wsL_law0_r15 : List Cond := [Cond.methodLink RX1 35 yJ7_fill_53178, Cond.methodLink RX1 39 yX1_startBand, Cond.instanceMethod yX1_startBand, Cond.selects RX1 yX1_startBand yX1_startBand, Cond.code yX1_startBand cX1_startBand 3 none, Cond.fieldLink RX1 56 "GreyReel$Picture" "number" "I", Cond.fieldLink RX1 63 "GreyReel$Picture" "isKeyPicture" "Z", Cond.fieldLink RX1 67 "GreyReel$Picture" "q" "I", Cond.fieldLink RX1 70 "GreyReel$Picture" "isSmoothed" "Z", Cond.methodLink RX1 59 yX1_put, Cond.instanceMethod yX1_put, Cond.selects RX1 yX1_put yX1_put, Cond.code yX1_put cX1_put 5 none, Cond.methodLink RX1 43 yX1_writeBlock, Cond.instanceMethod yX1_writeBlock, Cond.selects RX1 yX1_writeBlock yX1_writeBlock, Cond.code yX1_writeBlock cX1_writeBlock 5 none, Cond.fieldLink RX1 73 "GreyReel$Picture" "kind" "[I", Cond.fieldLink RX1 80 "GreyReel$Picture" "vx" "[I", Cond.fieldLink RX1 89 "GreyReel$Picture" "vy" "[I", Cond.fieldLink RX1 95 "GreyReel$Picture" "level" "[I", Cond.methodLink RX1 76 yX1_writeKind, Cond.instanceMethod yX1_writeKind, Cond.selects RX1 yX1_writeKind yX1_writeKind]
def wsL_law0_r16 : List Cond := [Cond.code yX1_writeKind cX1_writeKind 4 none, Cond.methodLink RX1 101 yX1_putOnes, Cond.instanceMethod yX1_putOnes, Cond.selects RX1 yX1_putOnes yX1_putOnes, Cond.code yX1_putOnes cX1_putOnes 2 none, Cond.methodLink RX1 83 yX2_expectedX, Cond.methodLink RX1 86 yX1_writeSigned, Cond.instanceMethod yX1_writeSigned, Cond.selects RX1 yX1_writeSigned yX1_writeSigned, Cond.code yX1_writeSigned cX1_writeSigned 4 none, Cond.static yX5_folded, Cond.code yX5_folded cX5_folded 1 (some .int), Cond.methodLink RX1 92 yX2_expectedY, Cond.methodLink RX1 98 yX1_writeLevels, Cond.instanceMethod yX1_writeLevels, Cond.selects RX1 yX1_writeLevels yX1_writeLevels, Cond.code yX1_writeLevels cX1_writeLevels 6 none, Cond.methodLink RX1 107 yX1_writeNumber, Cond.instanceMethod yX1_writeNumber, Cond.selects RX1 yX1_writeNumber yX1_writeNumber, Cond.code yX1_writeNumber cX1_writeNumber 4 none, Cond.methodLink RX1 52 yX2_bytesIn, Cond.instanceMethod yX2_bytesIn, Cond.selects RX2 yX2_bytesIn yX2_bytesIn]
def wsL_law0_r17 : List Cond := [Cond.code yX2_bytesIn cX2_bytesIn 2 (some .int), Cond.methodLink RX5 144 yX2_bytesInAll, Cond.instanceMethod yX2_bytesInAll, Cond.selects RX2 yX2_bytesInAll yX2_bytesInAll, Cond.code yX2_bytesInAll cX2_bytesInAll 1 (some .int), Cond.methodLink RX2 61 yX2_firstByteOf, Cond.instanceMethod yX2_firstByteOf, Cond.selects RX2 yX2_firstByteOf yX2_firstByteOf, Cond.code yX2_firstByteOf cX2_firstByteOf 4 (some .int), Cond.methodLink RX2 57 yX2_bytesIn, Cond.methodLink RL 99 yX5_digest, Cond.instanceMethod yX5_digest, Cond.selects RX5 yX5_digest yX5_digest, Cond.code yX5_digest cX5_digest 4 (some .long), Cond.constantLong RX5 251 (58019), Cond.constantLong RX5 253 (31), Cond.fieldLink RX5 208 "GreyReel$Viewer" "shownPictures" "I", Cond.fieldLink RX5 228 "GreyReel$Viewer" "screen" "[I", Cond.methodLink RX5 255 yX5_drift, Cond.instanceMethod yX5_drift, Cond.selects RX5 yX5_drift yX5_drift, Cond.code yX5_drift cX5_drift 2 (some .int), Cond.methodLink RX5 231 yX5_distance, Cond.static yX5_distance]
def wsL_law0_r18 : List Cond := [Cond.code yX5_distance cX5_distance 4 (some .int), Cond.methodLink RX5 274 Lib.Math.abs.name, Cond.methodLink RX5 258 yX5_bytesOfAll, Cond.instanceMethod yX5_bytesOfAll, Cond.selects RX5 yX5_bytesOfAll yX5_bytesOfAll, Cond.code yX5_bytesOfAll cX5_bytesOfAll 3 (some .int), Cond.methodLink RX5 161 yX5_pictureAt, Cond.instanceMethod yX5_pictureAt, Cond.selects RX5 yX5_pictureAt yX5_pictureAt, Cond.code yX5_pictureAt cX5_pictureAt 3 (some (.object "GreyReel$Picture")), Cond.classLink RX5 269 "java/lang/IndexOutOfBoundsException", Cond.initialized "java/lang/IndexOutOfBoundsException", Cond.methodLink RX5 261 yX2_digestOn, Cond.instanceMethod yX2_digestOn, Cond.selects RX2 yX2_digestOn yX2_digestOn, Cond.code yX2_digestOn cX2_digestOn 6 (some .long), Cond.constantLong RX2 71 (31), Cond.methodLink RX2 73 yX2_levelsNotZero, Cond.instanceMethod yX2_levelsNotZero, Cond.selects RX2 yX2_levelsNotZero yX2_levelsNotZero, Cond.code yX2_levelsNotZero cX2_levelsNotZero 4 (some .int), Cond.methodLink RX2 76 yX2_digestPacket, Cond.instanceMethod yX2_digestPacket, Cond.selects RX2 yX2_digestPacket yX2_digestPacket]
def wsL_law0_r19 : List Cond := [Cond.code yX2_digestPacket cX2_digestPacket 8 (some .long), Cond.methodLink RX5 265 yX5_digestPoints, Cond.static yX5_digestPoints, Cond.code yX5_digestPoints cX5_digestPoints 6 (some .long), Cond.methodLink RL 103 yX5_priceOf, Cond.instanceMethod yX5_priceOf, Cond.selects RX5 yX5_priceOf yX5_priceOf, Cond.code yX5_priceOf cX5_priceOf 3 (some .int), Cond.fieldLink RX5 239 "GreyReel$Picture" "price" "[I", Cond.methodLink RX5 171 yX5_placeIn, Cond.static yX5_placeIn, Cond.code yX5_placeIn cX5_placeIn 2 (some .int), Cond.methodLink RL 106 yX5_code, Cond.instanceMethod yX5_code, Cond.selects RX5 yX5_code yX5_code, Cond.code yX5_code cX5_code 2 (some .int), Cond.fieldLink RX5 152 "GreyReel$Picture" "row" "[I", Cond.methodLink RX5 148 yX1_copyOfBytes, Cond.instanceMethod yX1_copyOfBytes, Cond.selects RX1 yX1_copyOfBytes yX1_copyOfBytes, Cond.code yX1_copyOfBytes cX1_copyOfBytes 2 (some (.array .int)), Cond.methodLink RX1 29 yJ7_copyOf_59c91, Cond.static yJ7_copyOf_59c91, Cond.code yJ7_copyOf_59c91 cJ7_copyOf_59c91 3 (some (.array .int))]
def wsL_law0_r20 : List Cond := [Cond.methodLink RJ7 316 ⟨"[I", "clone", "()Ljava/lang/Object;"⟩, Cond.sameMethod "[I" "java/lang/Object" "clone" "()Ljava/lang/Object;", Cond.native ⟨"java/lang/Object", "clone", "()Ljava/lang/Object;"⟩, Cond.instanceMethod ⟨"java/lang/Object", "clone", "()Ljava/lang/Object;"⟩, Cond.selects "[I" ⟨"[I", "clone", "()Ljava/lang/Object;"⟩ ⟨"java/lang/Object", "clone", "()Ljava/lang/Object;"⟩, Cond.classLink RJ7 317 "[I", Cond.methodLink RJ7 304 Lib.Math.min.name, Cond.methodLink RJ7 150 arraycopyName, Cond.methodLink RX5 158 yX5_steer, Cond.instanceMethod yX5_steer, Cond.selects RX5 yX5_steer yX5_steer, Cond.code yX5_steer cX5_steer 4 none, Cond.methodLink RL 109 yL_isSound, Cond.static yL_isSound, Cond.code yL_isSound cL_isSound 6 (some .boolean), Cond.methodLink RL 52 Lib.Math.abs.name, Cond.methodLink RL 36 yX5_kindOf, Cond.instanceMethod yX5_kindOf, Cond.selects RX5 yX5_kindOf yX5_kindOf, Cond.code yX5_kindOf cX5_kindOf 3 (some .int), Cond.fieldLink RX5 168 "GreyReel$Picture" "kind" "[I", Cond.methodLink RL 39 yX5_levels, Cond.instanceMethod yX5_levels, Cond.selects RX5 yX5_levels yX5_levels]
def wsL_law0_r21 : List Cond := [Cond.code yX5_levels cX5_levels 3 (some .int), Cond.methodLink RX5 180 yX2_levelsNotZero, Cond.methodLink RL 42 yX5_isKey, Cond.instanceMethod yX5_isKey, Cond.selects RX5 yX5_isKey yX5_isKey, Cond.code yX5_isKey cX5_isKey 2 (some .boolean), Cond.methodLink RL 46 yX5_vectorX, Cond.instanceMethod yX5_vectorX, Cond.selects RX5 yX5_vectorX yX5_vectorX, Cond.code yX5_vectorX cX5_vectorX 3 (some .int), Cond.fieldLink RX5 174 "GreyReel$Picture" "vx" "[I", Cond.methodLink RL 49 yX5_vectorY, Cond.instanceMethod yX5_vectorY, Cond.selects RX5 yX5_vectorY yX5_vectorY, Cond.code yX5_vectorY cX5_vectorY 3 (some .int), Cond.fieldLink RX5 177 "GreyReel$Picture" "vy" "[I", Cond.methodLink RL 57 yX5_bits, Cond.instanceMethod yX5_bits, Cond.selects RX5 yX5_bits yX5_bits, Cond.code yX5_bits cX5_bits 3 (some .int), Cond.fieldLink RX5 195 "GreyReel$Picture" "usedBits" "[I", Cond.methodLink RL 60 yX5_bytes, Cond.instanceMethod yX5_bytes, Cond.selects RX5 yX5_bytes yX5_bytes]
def wsL_law0_r22 : List Cond := [Cond.code yX5_bytes cX5_bytes 3 (some .int), Cond.methodLink RX5 192 yX2_bytesIn, Cond.methodLink RL 63 yX5_byteAt, Cond.instanceMethod yX5_byteAt, Cond.selects RX5 yX5_byteAt yX5_byteAt, Cond.code yX5_byteAt cX5_byteAt 7 (some .int), Cond.methodLink RX5 198 yX2_firstByteOf, Cond.methodLink RL 66 yX5_errorOf, Cond.instanceMethod yX5_errorOf, Cond.selects RX5 yX5_errorOf yX5_errorOf, Cond.code yX5_errorOf cX5_errorOf 2 (some .int), Cond.fieldLink RX5 189 "GreyReel$Picture" "error" "I", Cond.methodLink RL 113 yX5_hand, Cond.instanceMethod yX5_hand, Cond.selects RX5 yX5_hand yX5_hand, Cond.code yX5_hand cX5_hand 4 (some .boolean), Cond.methodLink RX5 204 yX5_handOver, Cond.instanceMethod yX5_handOver, Cond.selects RX5 yX5_handOver yX5_handOver, Cond.code yX5_handOver cX5_handOver 4 (some .boolean), Cond.fieldLink RX5 235 "GreyReel$Picture" "got" "[Z", Cond.methodLink RL 117 yX5_driftNext, Cond.instanceMethod yX5_driftNext, Cond.selects RX5 yX5_driftNext yX5_driftNext]
def wsL_law0_r23 : List Cond := [Cond.code yX5_driftNext cX5_driftNext 2 (some .int), Cond.fieldLink RX5 242 "GreyReel$Viewer" "studio" "LGreyReel$Studio;", Cond.fieldLink RX5 246 "GreyReel$Studio" "made" "[I", Cond.methodLink RX5 219 yX4_make, Cond.instanceMethod yX4_make, Cond.selects RX4 yX4_make yX4_make, Cond.code yX4_make cX4_make 3 none, Cond.fieldLink RX4 36 "GreyReel$Picture" "got" "[Z", Cond.fieldLink RX4 42 "GreyReel$Picture" "kind" "[I", Cond.fieldLink RX4 45 "GreyReel$Picture" "vx" "[I", Cond.fieldLink RX4 48 "GreyReel$Picture" "vy" "[I", Cond.fieldLink RX4 55 "GreyReel$Picture" "q" "I", Cond.fieldLink RX4 58 "GreyReel$Picture" "level" "[I", Cond.fieldLink RX4 69 "GreyReel$Picture" "isSmoothed" "Z", Cond.methodLink RX4 32 yX3_lookAhead, Cond.methodLink RX4 51 yX3_foretell, Cond.methodLink RX4 61 yX3_makeBlock, Cond.methodLink RX4 65 yX4_conceal, Cond.instanceMethod yX4_conceal, Cond.selects RX4 yX4_conceal yX4_conceal, Cond.code yX4_conceal cX4_conceal 7 none, Cond.methodLink RX4 81 yX3_makeForetold, Cond.instanceMethod yX3_makeForetold, Cond.selects RX3 yX3_makeForetold yX3_makeForetold]
def wsL_law0_r24 : List Cond := [Cond.code yX3_makeForetold cX3_makeForetold 3 none, Cond.methodLink RX4 73 yX2_bandsGot, Cond.instanceMethod yX2_bandsGot, Cond.selects RX2 yX2_bandsGot yX2_bandsGot, Cond.code yX2_bandsGot cX2_bandsGot 3 (some .int), Cond.methodLink RX4 77 yX3_smooth, Cond.methodLink RL 120 yX5_shown, Cond.instanceMethod yX5_shown, Cond.selects RX5 yX5_shown yX5_shown, Cond.code yX5_shown cX5_shown 1 (some .int), Cond.methodLink RL 123 yX5_show, Cond.instanceMethod yX5_show, Cond.selects RX5 yX5_show yX5_show, Cond.code yX5_show cX5_show 2 (some .int), Cond.methodLink RX5 222 yX4_takeMade, Cond.instanceMethod yX4_takeMade, Cond.selects RX4 yX4_takeMade yX4_takeMade, Cond.code yX4_takeMade cX4_takeMade 1 none, Cond.fieldLink RX4 84 "GreyReel$Studio" "made" "[I", Cond.methodLink RX4 87 arraycopyName, Cond.methodLink RX5 225 yX2_bandsGot, Cond.methodLink RL 126 yX5_drift, Cond.methodLink RL 129 yX5_shownAt, Cond.instanceMethod yX5_shownAt]
def wsL_law0_r25 : List Cond := [Cond.selects RX5 yX5_shownAt yX5_shownAt, Cond.code yX5_shownAt cX5_shownAt 3 (some .int), Cond.methodLink RX5 120 yX5_pointAt, Cond.static yX5_pointAt, Cond.code yX5_pointAt cX5_pointAt 2 (some .int), Cond.methodLink RL 132 yX5_resultAt, Cond.instanceMethod yX5_resultAt, Cond.selects RX5 yX5_resultAt yX5_resultAt, Cond.code yX5_resultAt cX5_resultAt 4 (some .int), Cond.methodLink RL 135 yX5_bytesOfAll, Cond.methodLink RL 138 yX5_pictures, Cond.instanceMethod yX5_pictures, Cond.selects RX5 yX5_pictures yX5_pictures, Cond.code yX5_pictures cX5_pictures 1 (some .int), Cond.methodLink RL 141 yX5_meanError, Cond.instanceMethod yX5_meanError, Cond.selects RX5 yX5_meanError yX5_meanError, Cond.code yX5_meanError cX5_meanError 4 (some .double)]
def wsL_law0 : List Cond := (wsL_law0_r1 ++ (wsL_law0_r2 ++ (wsL_law0_r3 ++ (wsL_law0_r4 ++ (wsL_law0_r5 ++ (wsL_law0_r6 ++ (wsL_law0_r7 ++ (wsL_law0_r8 ++ (wsL_law0_r9 ++ (wsL_law0_r10 ++ (wsL_law0_r11 ++ (wsL_law0_r12 ++ (wsL_law0_r13 ++ (wsL_law0_r14 ++ (wsL_law0_r15 ++ (wsL_law0_r16 ++ (wsL_law0_r17 ++ (wsL_law0_r18 ++ (wsL_law0_r19 ++ (wsL_law0_r20 ++ (wsL_law0_r21 ++ (wsL_law0_r22 ++ (wsL_law0_r23 ++ (wsL_law0_r24 ++ wsL_law0_r25)))))))))))))))))))))))) ++ wsX50 ++ wsX00 ++ wsX10 ++ wsX40 ++ wsX20 ++ wsX30 ++ ([] : List Cond)
def wsL_law : List Cond := wsL_law0 ++ (vx_atS RX5 79 "java/lang/IllegalArgumentException" ["java/lang/RuntimeException", "java/lang/Exception"]).filter goodWord ++ (vx_atS RX5 218 "java/lang/IllegalStateException" ["java/lang/RuntimeException", "java/lang/Exception"]).filter goodWord ++ (vx_atS RX5 273 "java/lang/IndexOutOfBoundsException" ["java/lang/RuntimeException", "java/lang/Exception"]).filter goodWord
end
section
theorem mem_app2 {a b T : List Cond} (ha : ∀ w ∈ a, w ∈ T) (hb : ∀ w ∈ b, w ∈ T) : ∀ w ∈ a ++ b, w ∈ T := fun w h => (List.mem_append.mp h).elim (ha w) (hb w)
set_option maxRecDepth 20000 in
theorem wsL_law_in0_r1 : ∀ w ∈ wsL_law0_r1, w ∈ lw_tbl := fun w h => (goodIn_p wsL_law0_r1 [52, 55] (by decide +kernel) (by decide +kernel) w h).1
set_option maxRecDepth 20000 in
theorem wsL_law_in0_r2 : ∀ w ∈ wsL_law0_r2, w ∈ lw_tbl := fun w h => (goodIn_p wsL_law0_r2 [62] (by decide +kernel) (by decide +kernel) w h).1
set_option maxRecDepth 20000 in
theorem wsL_law_in0_r3 : ∀ w ∈ wsL_law0_r3, w ∈ lw_tbl := fun w h => (goodIn_p wsL_law0_r3 [68, 108, 127] (by decide +kernel) (by decide +kernel) w h).1
set_option maxRecDepth 20000 in
theorem wsL_law_in0_r4 : ∀ w ∈ wsL_law0_r4, w ∈ lw_tbl := fun w h => (goodIn_p wsL_law0_r4 [133, 150, 770] (by decide +kernel) (by decide +kernel) w h).1
set_option maxRecDepth 20000 in
theorem wsL_law_in0_r5 : ∀ w ∈ wsL_law0_r5, w ∈ lw_tbl := fun w h => (goodIn_p wsL_law0_r5 [766, 774, 778, 414, 411, 284] (by decide +kernel) (by decide +kernel) w h).1
set_option maxRecDepth 20000 in
theorem wsL_law_in0_r6 : ∀ w ∈ wsL_law0_r6, w ∈ lw_tbl := fun w h => (goodIn_p wsL_law0_r6 [785, 495, 793, 801, 408] (by decide +kernel) (by decide +kernel) w h).1
set_option maxRecDepth 20000 in
theorem wsL_law_in0_r7 : ∀ w ∈ wsL_law0_r7, w ∈ lw_tbl := fun w h => (goodIn_p wsL_law0_r7 [808, 281, 361, 365, 369, 356] (by decide +kernel) (by decide +kernel) w h).1
set_option maxRecDepth 20000 in
theorem wsL_law_in0_r8 : ∀ w ∈ wsL_law0_r8, w ∈ lw_tbl := fun w h => (goodIn_p wsL_law0_r8 [629, 723, 377, 397] (by decide +kernel) (by decide +kernel) w h).1
set_option maxRecDepth 20000 in
theorem wsL_law_in0_r9 : ∀ w ∈ wsL_law0_r9, w ∈ lw_tbl := fun w h => (goodIn_p wsL_law0_r9 [401, 405, 418, 422] (by decide +kernel) (by decide +kernel) w h).1
set_option maxRecDepth 20000 in
theorem wsL_law_in0_r10 : ∀ w ∈ wsL_law0_r10, w ∈ lw_tbl := fun w h => (goodIn_p wsL_law0_r10 [427, 431, 441, 435, 438] (by decide +kernel) (by decide +kernel) w h).1
set_option maxRecDepth 20000 in
theorem wsL_law_in0_r11 : ∀ w ∈ wsL_law0_r11, w ∈ lw_tbl := fun w h => (goodIn_p wsL_law0_r11 [445, 449, 453, 456, 460, 465, 470] (by decide +kernel) (by decide +kernel) w h).1
set_option maxRecDepth 20000 in
theorem wsL_law_in0_r12 : ∀ w ∈ wsL_law0_r12, w ∈ lw_tbl := fun w h => (goodIn_p wsL_law0_r12 [474, 478, 482, 488, 492] (by decide +kernel) (by decide +kernel) w h).1
set_option maxRecDepth 20000 in
theorem wsL_law_in0_r13 : ∀ w ∈ wsL_law0_r13, w ∈ lw_tbl := fun w h => (goodIn_p wsL_law0_r13 [499, 504, 507, 510, 514, 518, 523] (by decide +kernel) (by decide +kernel) w h).1
set_option maxRecDepth 20000 in
theorem wsL_law_in0_r14 : ∀ w ∈ wsL_law0_r14, w ∈ lw_tbl := fun w h => (goodIn_p wsL_law0_r14 [527, 531, 535, 539, 543, 547] (by decide +kernel) (by decide +kernel) w h).1
set_option maxRecDepth 20000 in
theorem wsL_law_in0_r15 : ∀ w ∈ wsL_law0_r15, w ∈ lw_tbl := fun w h => (goodIn_p wsL_law0_r15 [552, 556, 560] (by decide +kernel) (by decide +kernel) w h).1
set_option maxRecDepth 20000 in
theorem wsL_law_in0_r16 : ∀ w ∈ wsL_law0_r16, w ∈ lw_tbl := fun w h => (goodIn_p wsL_law0_r16 [564, 568, 573, 576, 581, 585] (by decide +kernel) (by decide +kernel) w h).1
set_option maxRecDepth 20000 in
theorem wsL_law_in0_r17 : ∀ w ∈ wsL_law0_r17, w ∈ lw_tbl := fun w h => (goodIn_p wsL_law0_r17 [589, 593, 597, 743, 715] (by decide +kernel) (by decide +kernel) w h).1
set_option maxRecDepth 20000 in
theorem wsL_law_in0_r18 : ∀ w ∈ wsL_law0_r18, w ∈ lw_tbl := fun w h => (goodIn_p wsL_law0_r18 [718, 735, 637, 751, 756] (by decide +kernel) (by decide +kernel) w h).1
set_option maxRecDepth 20000 in
theorem wsL_law_in0_r19 : ∀ w ∈ wsL_law0_r19, w ∈ lw_tbl := fun w h => (goodIn_p wsL_law0_r19 [760, 763, 727, 663, 373, 602, 606] (by decide +kernel) (by decide +kernel) w h).1
set_option maxRecDepth 20000 in
theorem wsL_law_in0_r20 : ∀ w ∈ wsL_law0_r20, w ∈ lw_tbl := fun w h => (goodIn_p wsL_law0_r20 [621, 811, 815] (by decide +kernel) (by decide +kernel) w h).1
set_option maxRecDepth 20000 in
theorem wsL_law_in0_r21 : ∀ w ∈ wsL_law0_r21, w ∈ lw_tbl := fun w h => (goodIn_p wsL_law0_r21 [819, 633, 824, 828, 833] (by decide +kernel) (by decide +kernel) w h).1
set_option maxRecDepth 20000 in
theorem wsL_law_in0_r22 : ∀ w ∈ wsL_law0_r22, w ∈ lw_tbl := fun w h => (goodIn_p wsL_law0_r22 [837, 842, 847, 668, 672] (by decide +kernel) (by decide +kernel) w h).1
set_option maxRecDepth 20000 in
theorem wsL_law_in0_r23 : ∀ w ∈ wsL_law0_r23, w ∈ lw_tbl := fun w h => (goodIn_p wsL_law0_r23 [731, 681, 688] (by decide +kernel) (by decide +kernel) w h).1
set_option maxRecDepth 20000 in
theorem wsL_law_in0_r24 : ∀ w ∈ wsL_law0_r24, w ∈ lw_tbl := fun w h => (goodIn_p wsL_law0_r24 [692, 696, 707, 676, 701] (by decide +kernel) (by decide +kernel) w h).1
set_option maxRecDepth 20000 in
theorem wsL_law_in0_r25 : ∀ w ∈ wsL_law0_r25, w ∈ lw_tbl := fun w h => (goodIn_p wsL_law0_r25 [711, 660, 657, 625, 739] (by decide +kernel) (by decide +kernel) w h).1
set_option maxRecDepth 20000 in
theorem wsL_law_in0_x5 : ∀ w ∈ wsX50, w ∈ lw_tbl := fun w h => (goodIn_p wsX50 [] (by decide +kernel) (by decide +kernel) w h).1
set_option maxRecDepth 20000 in
theorem wsL_law_in0_x0 : ∀ w ∈ wsX00, w ∈ lw_tbl := fun w h => (goodIn_p wsX00 [] (by decide +kernel) (by decide +kernel) w h).1
set_option maxRecDepth 20000 in
theorem wsL_law_in0_x1 : ∀ w ∈ wsX10, w ∈ lw_tbl := fun w h => (goodIn_p wsX10 [] (by decide +kernel) (by decide +kernel) w h).1
set_option maxRecDepth 20000 in
theorem wsL_law_in0_x4 : ∀ w ∈ wsX40, w ∈ lw_tbl := fun w h => (goodIn_p wsX40 [] (by decide +kernel) (by decide +kernel) w h).1
set_option maxRecDepth 20000 in
theorem wsL_law_in0_x2 : ∀ w ∈ wsX20, w ∈ lw_tbl := fun w h => (goodIn_p wsX20 [] (by decide +kernel) (by decide +kernel) w h).1
set_option maxRecDepth 20000 in
theorem wsL_law_in0_x3 : ∀ w ∈ wsX30, w ∈ lw_tbl := fun w h => (goodIn_p wsX30 [] (by decide +kernel) (by decide +kernel) w h).1
theorem wsL_law_in0 : ∀ w ∈ wsL_law0, w ∈ lw_tbl := mem_app2 (mem_app2 (mem_app2 (mem_app2 (mem_app2 (mem_app2 (mem_app2 (mem_app2 wsL_law_in0_r1 (mem_app2 wsL_law_in0_r2 (mem_app2 wsL_law_in0_r3 (mem_app2 wsL_law_in0_r4 (mem_app2 wsL_law_in0_r5 (mem_app2 wsL_law_in0_r6 (mem_app2 wsL_law_in0_r7 (mem_app2 wsL_law_in0_r8 (mem_app2 wsL_law_in0_r9 (mem_app2 wsL_law_in0_r10 (mem_app2 wsL_law_in0_r11 (mem_app2 wsL_law_in0_r12 (mem_app2 wsL_law_in0_r13 (mem_app2 wsL_law_in0_r14 (mem_app2 wsL_law_in0_r15 (mem_app2 wsL_law_in0_r16 (mem_app2 wsL_law_in0_r17 (mem_app2 wsL_law_in0_r18 (mem_app2 wsL_law_in0_r19 (mem_app2 wsL_law_in0_r20 (mem_app2 wsL_law_in0_r21 (mem_app2 wsL_law_in0_r22 (mem_app2 wsL_law_in0_r23 (mem_app2 wsL_law_in0_r24 wsL_law_in0_r25)))))))))))))))))))))))) wsL_law_in0_x5) wsL_law_in0_x0) wsL_law_in0_x1) wsL_law_in0_x4) wsL_law_in0_x2) wsL_law_in0_x3) (fun w h => absurd h List.not_mem_nil)
theorem wsL_law_x0 : ∀ w ∈ (vx_atS RX5 79 "java/lang/IllegalArgumentException" ["java/lang/RuntimeException", "java/lang/Exception"]).filter goodWord, w ∈ lw_tbl := by decide +kernel
theorem wsL_law_x1 : ∀ w ∈ (vx_atS RX5 218 "java/lang/IllegalStateException" ["java/lang/RuntimeException", "java/lang/Exception"]).filter goodWord, w ∈ lw_tbl := by decide +kernel
theorem wsL_law_x2 : ∀ w ∈ (vx_atS RX5 273 "java/lang/IndexOutOfBoundsException" ["java/lang/RuntimeException", "java/lang/Exception"]).filter goodWord, w ∈ lw_tbl := by decide +kernel
theorem wsL_law_in : ∀ w ∈ wsL_law, w ∈ lw_tbl := fun w h => (List.mem_append.mp h).elim (fun h => (List.mem_append.mp h).elim (fun h => (List.mem_append.mp h).elim (fun h => wsL_law_in0 w h) (fun h => wsL_law_x0 w h)) (fun h => wsL_law_x1 w h)) (fun h => wsL_law_x2 w h)
theorem inlX0 : ∀ w ∈ wsX00, w ∈ wsL_law := fun _ h => List.mem_append_left _ (List.mem_append_left _ (List.mem_append_left _ (List.mem_append_left _ (List.mem_append_left _ (List.mem_append_left _ (List.mem_append_left _ (List.mem_append_left _ (List.mem_append_right _ h))))))))
theorem inX0 : ∀ w ∈ wsX00, w ∈ lw_tbl := fun w h => wsL_law_in w (inlX0 w h)
theorem inlX1 : ∀ w ∈ wsX10, w ∈ wsL_law := fun _ h => List.mem_append_left _ (List.mem_append_left _ (List.mem_append_left _ (List.mem_append_left _ (List.mem_append_left _ (List.mem_append_left _ (List.mem_append_left _ (List.mem_append_right _ h)))))))
theorem inX1 : ∀ w ∈ wsX10, w ∈ lw_tbl := fun w h => wsL_law_in w (inlX1 w h)
theorem inlX2 : ∀ w ∈ wsX20, w ∈ wsL_law := fun _ h => List.mem_append_left _ (List.mem_append_left _ (List.mem_append_left _ (List.mem_append_left _ (List.mem_append_left _ (List.mem_append_right _ h)))))
theorem inX2 : ∀ w ∈ wsX20, w ∈ lw_tbl := fun w h => wsL_law_in w (inlX2 w h)
theorem inlX3 : ∀ w ∈ wsX30, w ∈ wsL_law := fun _ h => List.mem_append_left _ (List.mem_append_left _ (List.mem_append_left _ (List.mem_append_left _ (List.mem_append_right _ h))))
theorem inX3 : ∀ w ∈ wsX30, w ∈ lw_tbl := fun w h => wsL_law_in w (inlX3 w h)
theorem inlX4 : ∀ w ∈ wsX40, w ∈ wsL_law := fun _ h => List.mem_append_left _ (List.mem_append_left _ (List.mem_append_left _ (List.mem_append_left _ (List.mem_append_left _ (List.mem_append_left _ (List.mem_append_right _ h))))))
theorem inX4 : ∀ w ∈ wsX40, w ∈ lw_tbl := fun w h => wsL_law_in w (inlX4 w h)
theorem inlX5 : ∀ w ∈ wsX50, w ∈ wsL_law := fun _ h => List.mem_append_left _ (List.mem_append_left _ (List.mem_append_left _ (List.mem_append_left _ (List.mem_append_left _ (List.mem_append_left _ (List.mem_append_left _ (List.mem_append_left _ (List.mem_append_left _ (List.mem_append_right _ h)))))))))
theorem inX5 : ∀ w ∈ wsX50, w ∈ lw_tbl := fun w h => wsL_law_in w (inlX5 w h)
end
section
theorem inX6 : ∀ w ∈ wsX60, w ∈ lw_tbl := by decide +kernel
theorem inJx145de : ∀ w ∈ wsJx145de0, w ∈ lw_tbl := by decide +kernel
theorem inJx8e188 : ∀ w ∈ wsJx8e1880, w ∈ lw_tbl := by decide +kernel
theorem inJ9 : ∀ w ∈ wsJ90, w ∈ lw_tbl := by decide +kernel
theorem inJ0 : ∀ w ∈ wsJ00, w ∈ lw_tbl := by decide +kernel
theorem inJ10 : ∀ w ∈ wsJ100, w ∈ lw_tbl := by decide +kernel
theorem inJ7 : ∀ w ∈ wsJ70, w ∈ lw_tbl := by decide +kernel
set_option maxRecDepth 20000 in
theorem ggX0_init_X3_init : GoodIn wsX0_init wsX3_init := goodIn_r _ [13, 14, 2, 3, 15, 16, 17, 18, 19, 20, 21, 22, 23] (by decide +kernel) (by decide +kernel)
set_option maxRecDepth 20000 in
theorem gX0_init_X3_init_n11 : GoodIn wsX0_init (wsX3_init) := ggX0_init_X3_init
theorem dX0_init_0 : decode cX0_init 0 = .ok (.aload_n 0, 1) := by decide +kernel
theorem dX0_init_1 : decode cX0_init 1 = .ok (.invokespecial 3, 3) := by decide +kernel
theorem dX0_init_4 : decode cX0_init 4 = .ok (.aload_n 0, 1) := by decide +kernel
theorem dX0_init_5 : decode cX0_init 5 = .ok (.new 9, 3) := by decide +kernel
theorem dX0_init_8 : decode cX0_init 8 = .ok (.dup, 1) := by decide +kernel
theorem dX0_init_9 : decode cX0_init 9 = .ok (.invokespecial 11, 3) := by decide +kernel
theorem dX0_init_12 : decode cX0_init 12 = .ok (.putfield 12, 3) := by decide +kernel
theorem dX0_init_15 : decode cX0_init 15 = .ok (.aload_n 0, 1) := by decide +kernel
theorem dX0_init_16 : decode cX0_init 16 = .ok (.iconst 2, 1) := by decide +kernel
theorem dX0_init_17 : decode cX0_init 17 = .ok (.putfield 18, 3) := by decide +kernel
theorem dX0_init_20 : decode cX0_init 20 = .ok (.aload_n 0, 1) := by decide +kernel
theorem dX0_init_21 : decode cX0_init 21 = .ok (.iconst 0, 1) := by decide +kernel
theorem dX0_init_22 : decode cX0_init 22 = .ok (.putfield 22, 3) := by decide +kernel
theorem dX0_init_25 : decode cX0_init 25 = .ok (.aload_n 0, 1) := by decide +kernel
theorem dX0_init_26 : decode cX0_init 26 = .ok (.iconst 0, 1) := by decide +kernel
theorem dX0_init_27 : decode cX0_init 27 = .ok (.putfield 25, 3) := by decide +kernel
theorem dX0_init_30 : decode cX0_init 30 = .ok (.aload_n 0, 1) := by decide +kernel
theorem dX0_init_31 : decode cX0_init 31 = .ok (.iconst 0, 1) := by decide +kernel
theorem dX0_init_32 : decode cX0_init 32 = .ok (.putfield 28, 3) := by decide +kernel
theorem dX0_init_35 : decode cX0_init 35 = .ok (.return_, 1) := by decide +kernel
set_option maxRecDepth 20000 in
theorem ggX0_codeAll_X0_codeBlock : GoodIn wsX0_codeAll wsX0_codeBlock := goodIn_r _ [11, 3, 12, 13, 14, 2, 15, 16, 17, 18, 19, 20, 21, 22, 23, 24, 25, 10, 26, 27, 28, 29, 30, 31, 32, 33, 34, 35, 36, 37, 38, 39, 40, 41, 42, 43, 44, 45, 46, 47, 48, 49, 50, 51, 52, 53, 54, 55, 56, 57, 58, 59, 60, 61, 62, 63, 64, 65, 66, 67, 68, 69, 70, 71, 72, 73, 74, 75, 76, 77, 78, 79, 80, 81, 82, 83, 84, 85, 86, 87, 88, 89, 90, 91, 92, 93, 94, 95, 96, 97, 98, 99, 100, 101, 102, 103, 104, 105, 106, 107, 108, 109, 110, 111, 112, 113, 114, 115, 116, 117, 118, 119, 120, 121, 122, 123, 124, 125, 126, 127, 128, 129, 130, 131, 132, 133, 134, 143, 144, 145, 146, 147, 148, 149, 150, 151, 152, 153, 154, 155, 156, 157, 158, 159, 160, 161, 162, 163, 164, 165] (by decide +kernel) (by decide +kernel)
set_option maxRecDepth 20000 in
theorem gX0_codeAll_X0_codeBlock : GoodIn wsX0_codeAll (wsV RX0 31 RX0 yX0_codeBlock wsX0_codeBlock) := goodIn_app (goodIn_of _ (by decide +kernel)) ggX0_codeAll_X0_codeBlock
set_option maxRecDepth 20000 in
theorem ggX0_codeAll_X3_smooth : GoodIn wsX0_codeAll wsX3_smooth := goodIn_r _ [138, 139, 140, 141, 52, 142, 89, 54, 32, 33, 34, 162, 163, 164, 165] (by decide +kernel) (by decide +kernel)
set_option maxRecDepth 20000 in
theorem gX0_codeAll_X3_smooth : GoodIn wsX0_codeAll (wsV RX0 44 RX3 yX3_smooth wsX3_smooth) := goodIn_app (goodIn_of _ (by decide +kernel)) ggX0_codeAll_X3_smooth
theorem dX0_codeAll_0 : decode cX0_codeAll 0 = .ok (.iconst 0, 1) := by decide +kernel
theorem dX0_codeAll_1 : decode cX0_codeAll 1 = .ok (.istore_n 3, 1) := by decide +kernel
theorem dX0_codeAll_2 : decode cX0_codeAll 2 = .ok (.iload_n 3, 1) := by decide +kernel
theorem dX0_codeAll_3 : decode cX0_codeAll 3 = .ok (.bipush 12, 2) := by decide +kernel
theorem dX0_codeAll_5 : decode cX0_codeAll 5 = .ok (.if_icmp .ge 16, 3) := by decide +kernel
theorem dX0_codeAll_8 : decode cX0_codeAll 8 = .ok (.aload_n 0, 1) := by decide +kernel
theorem dX0_codeAll_9 : decode cX0_codeAll 9 = .ok (.aload_n 1, 1) := by decide +kernel
theorem dX0_codeAll_10 : decode cX0_codeAll 10 = .ok (.aload_n 2, 1) := by decide +kernel
theorem dX0_codeAll_11 : decode cX0_codeAll 11 = .ok (.iload_n 3, 1) := by decide +kernel
theorem dX0_codeAll_12 : decode cX0_codeAll 12 = .ok (.invokevirtual 31, 3) := by decide +kernel
theorem dX0_codeAll_15 : decode cX0_codeAll 15 = .ok (.iinc 3 1, 3) := by decide +kernel
theorem dX0_codeAll_18 : decode cX0_codeAll 18 = .ok (.goto (-16), 3) := by decide +kernel
theorem dX0_codeAll_21 : decode cX0_codeAll 21 = .ok (.aload_n 1, 1) := by decide +kernel
theorem dX0_codeAll_22 : decode cX0_codeAll 22 = .ok (.getfield 35, 3) := by decide +kernel
theorem dX0_codeAll_25 : decode cX0_codeAll 25 = .ok (.ifCond .eq 14, 3) := by decide +kernel
theorem dX0_codeAll_28 : decode cX0_codeAll 28 = .ok (.aload_n 0, 1) := by decide +kernel
theorem dX0_codeAll_29 : decode cX0_codeAll 29 = .ok (.getfield 12, 3) := by decide +kernel
theorem dX0_codeAll_32 : decode cX0_codeAll 32 = .ok (.aload_n 1, 1) := by decide +kernel
theorem dX0_codeAll_33 : decode cX0_codeAll 33 = .ok (.getfield 41, 3) := by decide +kernel
theorem dX0_codeAll_36 : decode cX0_codeAll 36 = .ok (.invokevirtual 44, 3) := by decide +kernel
theorem dX0_codeAll_39 : decode cX0_codeAll 39 = .ok (.iconst 0, 1) := by decide +kernel
theorem dX0_codeAll_40 : decode cX0_codeAll 40 = .ok (.istore_n 3, 1) := by decide +kernel
theorem dX0_codeAll_41 : decode cX0_codeAll 41 = .ok (.iconst 0, 1) := by decide +kernel
theorem dX0_codeAll_42 : decode cX0_codeAll 42 = .ok (.istore 4, 2) := by decide +kernel
theorem dX0_codeAll_44 : decode cX0_codeAll 44 = .ok (.iload 4, 2) := by decide +kernel
theorem dX0_codeAll_46 : decode cX0_codeAll 46 = .ok (.sipush 768, 3) := by decide +kernel
theorem dX0_codeAll_49 : decode cX0_codeAll 49 = .ok (.if_icmp .ge 51, 3) := by decide +kernel
theorem dX0_codeAll_52 : decode cX0_codeAll 52 = .ok (.aload_n 2, 1) := by decide +kernel
theorem dX0_codeAll_53 : decode cX0_codeAll 53 = .ok (.iload 4, 2) := by decide +kernel
theorem dX0_codeAll_55 : decode cX0_codeAll 55 = .ok (.iaload, 1) := by decide +kernel
theorem dX0_codeAll_56 : decode cX0_codeAll 56 = .ok (.aload_n 0, 1) := by decide +kernel
theorem dX0_codeAll_57 : decode cX0_codeAll 57 = .ok (.getfield 12, 3) := by decide +kernel
theorem dX0_codeAll_60 : decode cX0_codeAll 60 = .ok (.getfield 48, 3) := by decide +kernel
theorem dX0_codeAll_63 : decode cX0_codeAll 63 = .ok (.iload 4, 2) := by decide +kernel
theorem dX0_codeAll_65 : decode cX0_codeAll 65 = .ok (.iaload, 1) := by decide +kernel
theorem dX0_codeAll_66 : decode cX0_codeAll 66 = .ok (.isub, 1) := by decide +kernel
theorem dX0_codeAll_67 : decode cX0_codeAll 67 = .ok (.istore 5, 2) := by decide +kernel
theorem dX0_codeAll_69 : decode cX0_codeAll 69 = .ok (.iload_n 3, 1) := by decide +kernel
theorem dX0_codeAll_70 : decode cX0_codeAll 70 = .ok (.iload 5, 2) := by decide +kernel
theorem dX0_codeAll_72 : decode cX0_codeAll 72 = .ok (.iload 5, 2) := by decide +kernel
theorem dX0_codeAll_74 : decode cX0_codeAll 74 = .ok (.imul, 1) := by decide +kernel
theorem dX0_codeAll_75 : decode cX0_codeAll 75 = .ok (.iadd, 1) := by decide +kernel
theorem dX0_codeAll_76 : decode cX0_codeAll 76 = .ok (.istore_n 3, 1) := by decide +kernel
theorem dX0_codeAll_77 : decode cX0_codeAll 77 = .ok (.aload_n 1, 1) := by decide +kernel
theorem dX0_codeAll_78 : decode cX0_codeAll 78 = .ok (.getfield 52, 3) := by decide +kernel
theorem dX0_codeAll_81 : decode cX0_codeAll 81 = .ok (.iload 4, 2) := by decide +kernel
theorem dX0_codeAll_83 : decode cX0_codeAll 83 = .ok (.aload_n 0, 1) := by decide +kernel
theorem dX0_codeAll_84 : decode cX0_codeAll 84 = .ok (.getfield 12, 3) := by decide +kernel
theorem dX0_codeAll_87 : decode cX0_codeAll 87 = .ok (.getfield 48, 3) := by decide +kernel
theorem dX0_codeAll_90 : decode cX0_codeAll 90 = .ok (.iload 4, 2) := by decide +kernel
theorem dX0_codeAll_92 : decode cX0_codeAll 92 = .ok (.iaload, 1) := by decide +kernel
theorem dX0_codeAll_93 : decode cX0_codeAll 93 = .ok (.iastore, 1) := by decide +kernel
theorem dX0_codeAll_94 : decode cX0_codeAll 94 = .ok (.iinc 4 1, 3) := by decide +kernel
theorem dX0_codeAll_97 : decode cX0_codeAll 97 = .ok (.goto (-53), 3) := by decide +kernel
theorem dX0_codeAll_100 : decode cX0_codeAll 100 = .ok (.aload_n 1, 1) := by decide +kernel
theorem dX0_codeAll_101 : decode cX0_codeAll 101 = .ok (.iload_n 3, 1) := by decide +kernel
theorem dX0_codeAll_102 : decode cX0_codeAll 102 = .ok (.putfield 55, 3) := by decide +kernel
theorem dX0_codeAll_105 : decode cX0_codeAll 105 = .ok (.return_, 1) := by decide +kernel
set_option maxRecDepth 20000 in
theorem ggX0_codeBlock_X0_seekVector : GoodIn wsX0_codeBlock wsX0_seekVector := goodIn_r _ [18, 7, 8, 19, 20, 21, 17, 22, 23, 24, 25, 26, 1, 5, 3, 27, 28, 29, 30, 31, 32, 33, 34, 35, 36, 37, 38, 39, 40, 41, 42, 43, 44, 45, 46, 47, 48, 49, 50, 51, 52, 53, 54, 55, 56, 57, 58, 59, 60, 61, 6, 62, 63, 141, 142, 143, 144, 145, 127, 128, 129, 130, 131, 132, 133, 134, 135, 136, 137, 138, 139, 140, 146, 147, 148, 149] (by decide +kernel) (by decide +kernel)
set_option maxRecDepth 20000 in
theorem gX0_codeBlock_X0_seekVector : GoodIn wsX0_codeBlock (wsV RX0 62 RX0 yX0_seekVector wsX0_seekVector) := goodIn_app (goodIn_of _ (by decide +kernel)) ggX0_codeBlock_X0_seekVector
set_option maxRecDepth 20000 in
theorem ggX0_codeBlock_X0_tryKind : GoodIn wsX0_codeBlock wsX0_tryKind := goodIn_r _ [67, 5, 3, 68, 69, 70, 44, 71, 72, 73, 74, 75, 76, 47, 48, 49, 50, 53, 54, 55, 56, 57, 77, 78, 79, 80, 81, 33, 34, 35, 51, 52, 82, 83, 84, 85, 86, 87, 88, 89, 90, 91, 92, 93, 94, 95, 96, 97, 98, 99, 46, 24, 25, 26, 58, 59, 60, 17, 61, 6, 7, 8, 141, 142, 143, 144, 145, 146, 147, 148, 149] (by decide +kernel) (by decide +kernel)
set_option maxRecDepth 20000 in
theorem gX0_codeBlock_X0_tryKind : GoodIn wsX0_codeBlock (wsV RX0 65 RX0 yX0_tryKind wsX0_tryKind) := goodIn_app (goodIn_of _ (by decide +kernel)) ggX0_codeBlock_X0_tryKind
set_option maxRecDepth 20000 in
theorem ggX0_codeBlock_X5_isFirstOfBand : GoodIn wsX0_codeBlock wsX5_isFirstOfBand := goodIn_r _ [35] (by decide +kernel) (by decide +kernel)
set_option maxRecDepth 20000 in
theorem gX0_codeBlock_X5_isFirstOfBand_n69 : GoodIn wsX0_codeBlock (wsX5_isFirstOfBand) := ggX0_codeBlock_X5_isFirstOfBand
set_option maxRecDepth 20000 in
theorem ggX0_codeBlock_X3_foretell : GoodIn wsX0_codeBlock wsX3_foretell := goodIn_r _ [71, 72, 73, 74, 44, 75, 76, 47, 48, 49, 50, 53, 54, 55, 56, 57, 77, 78, 79, 80, 81, 33, 34, 35, 51, 52, 82, 83, 84, 85, 86, 87, 88, 89, 90, 91, 92, 93, 94, 95, 146, 147, 148, 149] (by decide +kernel) (by decide +kernel)
set_option maxRecDepth 20000 in
theorem gX0_codeBlock_X3_foretell : GoodIn wsX0_codeBlock (wsV RX0 73 RX3 yX3_foretell wsX3_foretell) := goodIn_app (goodIn_of _ (by decide +kernel)) ggX0_codeBlock_X3_foretell
set_option maxRecDepth 20000 in
theorem ggX0_codeBlock_X3_measure : GoodIn wsX0_codeBlock wsX3_measure := goodIn_r _ [103, 104, 76, 105, 106, 107, 44, 108, 109, 110, 111, 51, 34, 52, 112, 113, 114, 115, 116, 117, 118, 119, 120, 121, 122, 46, 24, 25, 26, 146, 147, 148, 149] (by decide +kernel) (by decide +kernel)
set_option maxRecDepth 20000 in
theorem gX0_codeBlock_X3_measure : GoodIn wsX0_codeBlock (wsV RX0 80 RX3 yX3_measure wsX3_measure) := goodIn_app (goodIn_of _ (by decide +kernel)) ggX0_codeBlock_X3_measure
set_option maxRecDepth 20000 in
theorem ggX0_codeBlock_X2_expectedX : GoodIn wsX0_codeBlock wsX2_expectedX := goodIn_r _ [31, 32, 33, 34, 35, 127, 128, 129, 130, 131, 132, 133, 134, 135, 136, 137, 138, 139, 140] (by decide +kernel) (by decide +kernel)
set_option maxRecDepth 20000 in
theorem gX0_codeBlock_X2_expectedX : GoodIn wsX0_codeBlock (wsV RX0 84 RX2 yX2_expectedX wsX2_expectedX) := goodIn_app (goodIn_of _ (by decide +kernel)) ggX0_codeBlock_X2_expectedX
set_option maxRecDepth 20000 in
theorem ggX0_codeBlock_X2_expectedY : GoodIn wsX0_codeBlock wsX2_expectedY := goodIn_r _ [39, 40, 33, 34, 35, 127, 128, 129, 130, 131, 132, 133, 134, 135, 136, 137, 138, 139, 140] (by decide +kernel) (by decide +kernel)
set_option maxRecDepth 20000 in
theorem gX0_codeBlock_X2_expectedY : GoodIn wsX0_codeBlock (wsV RX0 88 RX2 yX2_expectedY wsX2_expectedY) := goodIn_app (goodIn_of _ (by decide +kernel)) ggX0_codeBlock_X2_expectedY
set_option maxRecDepth 20000 in
theorem ggX0_codeBlock_X3_makeBlock : GoodIn wsX0_codeBlock wsX3_makeBlock := goodIn_r _ [126, 104, 105, 81, 76, 112, 113, 114, 44, 115, 116, 117, 118, 119, 106, 107, 108, 109, 110, 111, 51, 34, 52, 94, 95, 146, 147, 148, 149] (by decide +kernel) (by decide +kernel)
set_option maxRecDepth 20000 in
theorem gX0_codeBlock_X3_makeBlock : GoodIn wsX0_codeBlock (wsV RX0 103 RX3 yX3_makeBlock wsX3_makeBlock) := goodIn_app (goodIn_of _ (by decide +kernel)) ggX0_codeBlock_X3_makeBlock
theorem dX0_codeBlock_0 : decode cX0_codeBlock 0 = .ok (.aload_n 1, 1) := by decide +kernel
theorem dX0_codeBlock_1 : decode cX0_codeBlock 1 = .ok (.getfield 41, 3) := by decide +kernel
theorem dX0_codeBlock_4 : decode cX0_codeBlock 4 = .ok (.istore 4, 2) := by decide +kernel
theorem dX0_codeBlock_6 : decode cX0_codeBlock 6 = .ok (.aload_n 0, 1) := by decide +kernel
theorem dX0_codeBlock_7 : decode cX0_codeBlock 7 = .ok (.ldc 58, 2) := by decide +kernel
theorem dX0_codeBlock_9 : decode cX0_codeBlock 9 = .ok (.putfield 28, 3) := by decide +kernel
theorem dX0_codeBlock_12 : decode cX0_codeBlock 12 = .ok (.aload_n 1, 1) := by decide +kernel
theorem dX0_codeBlock_13 : decode cX0_codeBlock 13 = .ok (.getfield 59, 3) := by decide +kernel
theorem dX0_codeBlock_16 : decode cX0_codeBlock 16 = .ok (.ifCond .ne 10, 3) := by decide +kernel
theorem dX0_codeBlock_19 : decode cX0_codeBlock 19 = .ok (.aload_n 0, 1) := by decide +kernel
theorem dX0_codeBlock_20 : decode cX0_codeBlock 20 = .ok (.aload_n 1, 1) := by decide +kernel
theorem dX0_codeBlock_21 : decode cX0_codeBlock 21 = .ok (.aload_n 2, 1) := by decide +kernel
theorem dX0_codeBlock_22 : decode cX0_codeBlock 22 = .ok (.iload_n 3, 1) := by decide +kernel
theorem dX0_codeBlock_23 : decode cX0_codeBlock 23 = .ok (.invokevirtual 62, 3) := by decide +kernel
theorem dX0_codeBlock_26 : decode cX0_codeBlock 26 = .ok (.aload_n 0, 1) := by decide +kernel
theorem dX0_codeBlock_27 : decode cX0_codeBlock 27 = .ok (.iconst 2, 1) := by decide +kernel
theorem dX0_codeBlock_28 : decode cX0_codeBlock 28 = .ok (.aload_n 2, 1) := by decide +kernel
theorem dX0_codeBlock_29 : decode cX0_codeBlock 29 = .ok (.iload_n 3, 1) := by decide +kernel
theorem dX0_codeBlock_30 : decode cX0_codeBlock 30 = .ok (.iload 4, 2) := by decide +kernel
theorem dX0_codeBlock_32 : decode cX0_codeBlock 32 = .ok (.invokevirtual 65, 3) := by decide +kernel
theorem dX0_codeBlock_35 : decode cX0_codeBlock 35 = .ok (.iload_n 3, 1) := by decide +kernel
theorem dX0_codeBlock_36 : decode cX0_codeBlock 36 = .ok (.invokestatic 69, 3) := by decide +kernel
theorem dX0_codeBlock_39 : decode cX0_codeBlock 39 = .ok (.ifCond .ne 23, 3) := by decide +kernel
theorem dX0_codeBlock_42 : decode cX0_codeBlock 42 = .ok (.aload_n 0, 1) := by decide +kernel
theorem dX0_codeBlock_43 : decode cX0_codeBlock 43 = .ok (.iconst 3, 1) := by decide +kernel
theorem dX0_codeBlock_44 : decode cX0_codeBlock 44 = .ok (.aload_n 2, 1) := by decide +kernel
theorem dX0_codeBlock_45 : decode cX0_codeBlock 45 = .ok (.iload_n 3, 1) := by decide +kernel
theorem dX0_codeBlock_46 : decode cX0_codeBlock 46 = .ok (.iload 4, 2) := by decide +kernel
theorem dX0_codeBlock_48 : decode cX0_codeBlock 48 = .ok (.invokevirtual 65, 3) := by decide +kernel
theorem dX0_codeBlock_51 : decode cX0_codeBlock 51 = .ok (.aload_n 0, 1) := by decide +kernel
theorem dX0_codeBlock_52 : decode cX0_codeBlock 52 = .ok (.iconst 4, 1) := by decide +kernel
theorem dX0_codeBlock_53 : decode cX0_codeBlock 53 = .ok (.aload_n 2, 1) := by decide +kernel
theorem dX0_codeBlock_54 : decode cX0_codeBlock 54 = .ok (.iload_n 3, 1) := by decide +kernel
theorem dX0_codeBlock_55 : decode cX0_codeBlock 55 = .ok (.iconst 2, 1) := by decide +kernel
theorem dX0_codeBlock_56 : decode cX0_codeBlock 56 = .ok (.iload 4, 2) := by decide +kernel
theorem dX0_codeBlock_58 : decode cX0_codeBlock 58 = .ok (.imul, 1) := by decide +kernel
theorem dX0_codeBlock_59 : decode cX0_codeBlock 59 = .ok (.invokevirtual 65, 3) := by decide +kernel
theorem dX0_codeBlock_62 : decode cX0_codeBlock 62 = .ok (.aload_n 0, 1) := by decide +kernel
theorem dX0_codeBlock_63 : decode cX0_codeBlock 63 = .ok (.getfield 12, 3) := by decide +kernel
theorem dX0_codeBlock_66 : decode cX0_codeBlock 66 = .ok (.aload_n 0, 1) := by decide +kernel
theorem dX0_codeBlock_67 : decode cX0_codeBlock 67 = .ok (.getfield 18, 3) := by decide +kernel
theorem dX0_codeBlock_70 : decode cX0_codeBlock 70 = .ok (.iload_n 3, 1) := by decide +kernel
theorem dX0_codeBlock_71 : decode cX0_codeBlock 71 = .ok (.aload_n 0, 1) := by decide +kernel
theorem dX0_codeBlock_72 : decode cX0_codeBlock 72 = .ok (.getfield 22, 3) := by decide +kernel
theorem dX0_codeBlock_75 : decode cX0_codeBlock 75 = .ok (.aload_n 0, 1) := by decide +kernel
theorem dX0_codeBlock_76 : decode cX0_codeBlock 76 = .ok (.getfield 25, 3) := by decide +kernel
theorem dX0_codeBlock_79 : decode cX0_codeBlock 79 = .ok (.invokevirtual 73, 3) := by decide +kernel
theorem dX0_codeBlock_82 : decode cX0_codeBlock 82 = .ok (.aload_n 0, 1) := by decide +kernel
theorem dX0_codeBlock_83 : decode cX0_codeBlock 83 = .ok (.getfield 12, 3) := by decide +kernel
theorem dX0_codeBlock_86 : decode cX0_codeBlock 86 = .ok (.aload_n 2, 1) := by decide +kernel
theorem dX0_codeBlock_87 : decode cX0_codeBlock 87 = .ok (.iload_n 3, 1) := by decide +kernel
theorem dX0_codeBlock_88 : decode cX0_codeBlock 88 = .ok (.iload 4, 2) := by decide +kernel
theorem dX0_codeBlock_90 : decode cX0_codeBlock 90 = .ok (.aload_n 1, 1) := by decide +kernel
theorem dX0_codeBlock_91 : decode cX0_codeBlock 91 = .ok (.getfield 77, 3) := by decide +kernel
theorem dX0_codeBlock_94 : decode cX0_codeBlock 94 = .ok (.invokevirtual 80, 3) := by decide +kernel
theorem dX0_codeBlock_97 : decode cX0_codeBlock 97 = .ok (.istore 5, 2) := by decide +kernel
theorem dX0_codeBlock_99 : decode cX0_codeBlock 99 = .ok (.aload_n 0, 1) := by decide +kernel
theorem dX0_codeBlock_100 : decode cX0_codeBlock 100 = .ok (.getfield 22, 3) := by decide +kernel
theorem dX0_codeBlock_103 : decode cX0_codeBlock 103 = .ok (.aload_n 1, 1) := by decide +kernel
theorem dX0_codeBlock_104 : decode cX0_codeBlock 104 = .ok (.iload_n 3, 1) := by decide +kernel
theorem dX0_codeBlock_105 : decode cX0_codeBlock 105 = .ok (.invokevirtual 84, 3) := by decide +kernel
theorem dX0_codeBlock_108 : decode cX0_codeBlock 108 = .ok (.if_icmp .ne 19, 3) := by decide +kernel
theorem dX0_codeBlock_111 : decode cX0_codeBlock 111 = .ok (.aload_n 0, 1) := by decide +kernel
theorem dX0_codeBlock_112 : decode cX0_codeBlock 112 = .ok (.getfield 25, 3) := by decide +kernel
theorem dX0_codeBlock_115 : decode cX0_codeBlock 115 = .ok (.aload_n 1, 1) := by decide +kernel
theorem dX0_codeBlock_116 : decode cX0_codeBlock 116 = .ok (.iload_n 3, 1) := by decide +kernel
theorem dX0_codeBlock_117 : decode cX0_codeBlock 117 = .ok (.invokevirtual 88, 3) := by decide +kernel
theorem dX0_codeBlock_120 : decode cX0_codeBlock 120 = .ok (.if_icmp .ne 7, 3) := by decide +kernel
theorem dX0_codeBlock_123 : decode cX0_codeBlock 123 = .ok (.iconst 1, 1) := by decide +kernel
theorem dX0_codeBlock_124 : decode cX0_codeBlock 124 = .ok (.goto 4, 3) := by decide +kernel
theorem dX0_codeBlock_127 : decode cX0_codeBlock 127 = .ok (.iconst 0, 1) := by decide +kernel
theorem dX0_codeBlock_128 : decode cX0_codeBlock 128 = .ok (.istore 6, 2) := by decide +kernel
theorem dX0_codeBlock_130 : decode cX0_codeBlock 130 = .ok (.aload_n 1, 1) := by decide +kernel
theorem dX0_codeBlock_131 : decode cX0_codeBlock 131 = .ok (.getfield 91, 3) := by decide +kernel
theorem dX0_codeBlock_134 : decode cX0_codeBlock 134 = .ok (.iload_n 3, 1) := by decide +kernel
theorem dX0_codeBlock_135 : decode cX0_codeBlock 135 = .ok (.aload_n 0, 1) := by decide +kernel
theorem dX0_codeBlock_136 : decode cX0_codeBlock 136 = .ok (.getfield 18, 3) := by decide +kernel
theorem dX0_codeBlock_139 : decode cX0_codeBlock 139 = .ok (.iconst 1, 1) := by decide +kernel
theorem dX0_codeBlock_140 : decode cX0_codeBlock 140 = .ok (.if_icmp .ne 17, 3) := by decide +kernel
theorem dX0_codeBlock_143 : decode cX0_codeBlock 143 = .ok (.iload 6, 2) := by decide +kernel
theorem dX0_codeBlock_145 : decode cX0_codeBlock 145 = .ok (.ifCond .eq 12, 3) := by decide +kernel
theorem dX0_codeBlock_148 : decode cX0_codeBlock 148 = .ok (.iload 5, 2) := by decide +kernel
theorem dX0_codeBlock_150 : decode cX0_codeBlock 150 = .ok (.ifCond .eq 7, 3) := by decide +kernel
theorem dX0_codeBlock_153 : decode cX0_codeBlock 153 = .ok (.iconst 0, 1) := by decide +kernel
theorem dX0_codeBlock_154 : decode cX0_codeBlock 154 = .ok (.goto 7, 3) := by decide +kernel
theorem dX0_codeBlock_157 : decode cX0_codeBlock 157 = .ok (.aload_n 0, 1) := by decide +kernel
theorem dX0_codeBlock_158 : decode cX0_codeBlock 158 = .ok (.getfield 18, 3) := by decide +kernel
theorem dX0_codeBlock_161 : decode cX0_codeBlock 161 = .ok (.iastore, 1) := by decide +kernel
theorem dX0_codeBlock_162 : decode cX0_codeBlock 162 = .ok (.aload_n 1, 1) := by decide +kernel
theorem dX0_codeBlock_163 : decode cX0_codeBlock 163 = .ok (.getfield 94, 3) := by decide +kernel
theorem dX0_codeBlock_166 : decode cX0_codeBlock 166 = .ok (.iload_n 3, 1) := by decide +kernel
theorem dX0_codeBlock_167 : decode cX0_codeBlock 167 = .ok (.aload_n 0, 1) := by decide +kernel
theorem dX0_codeBlock_168 : decode cX0_codeBlock 168 = .ok (.getfield 22, 3) := by decide +kernel
theorem dX0_codeBlock_171 : decode cX0_codeBlock 171 = .ok (.iastore, 1) := by decide +kernel
theorem dX0_codeBlock_172 : decode cX0_codeBlock 172 = .ok (.aload_n 1, 1) := by decide +kernel
theorem dX0_codeBlock_173 : decode cX0_codeBlock 173 = .ok (.getfield 97, 3) := by decide +kernel
theorem dX0_codeBlock_176 : decode cX0_codeBlock 176 = .ok (.iload_n 3, 1) := by decide +kernel
theorem dX0_codeBlock_177 : decode cX0_codeBlock 177 = .ok (.aload_n 0, 1) := by decide +kernel
theorem dX0_codeBlock_178 : decode cX0_codeBlock 178 = .ok (.getfield 25, 3) := by decide +kernel
theorem dX0_codeBlock_181 : decode cX0_codeBlock 181 = .ok (.iastore, 1) := by decide +kernel
theorem dX0_codeBlock_182 : decode cX0_codeBlock 182 = .ok (.aload_n 1, 1) := by decide +kernel
theorem dX0_codeBlock_183 : decode cX0_codeBlock 183 = .ok (.getfield 100, 3) := by decide +kernel
theorem dX0_codeBlock_186 : decode cX0_codeBlock 186 = .ok (.iload_n 3, 1) := by decide +kernel
theorem dX0_codeBlock_187 : decode cX0_codeBlock 187 = .ok (.aload_n 0, 1) := by decide +kernel
theorem dX0_codeBlock_188 : decode cX0_codeBlock 188 = .ok (.getfield 28, 3) := by decide +kernel
theorem dX0_codeBlock_191 : decode cX0_codeBlock 191 = .ok (.iastore, 1) := by decide +kernel
theorem dX0_codeBlock_192 : decode cX0_codeBlock 192 = .ok (.aload_n 0, 1) := by decide +kernel
theorem dX0_codeBlock_193 : decode cX0_codeBlock 193 = .ok (.getfield 12, 3) := by decide +kernel
theorem dX0_codeBlock_196 : decode cX0_codeBlock 196 = .ok (.iload_n 3, 1) := by decide +kernel
theorem dX0_codeBlock_197 : decode cX0_codeBlock 197 = .ok (.iload 4, 2) := by decide +kernel
theorem dX0_codeBlock_199 : decode cX0_codeBlock 199 = .ok (.aload_n 1, 1) := by decide +kernel
theorem dX0_codeBlock_200 : decode cX0_codeBlock 200 = .ok (.getfield 77, 3) := by decide +kernel
theorem dX0_codeBlock_203 : decode cX0_codeBlock 203 = .ok (.invokevirtual 103, 3) := by decide +kernel
theorem dX0_codeBlock_206 : decode cX0_codeBlock 206 = .ok (.return_, 1) := by decide +kernel
set_option maxRecDepth 20000 in
theorem ggX0_seekVector_X0_tryVector : GoodIn wsX0_seekVector wsX0_tryVector := goodIn_r _ [7, 8, 9, 10, 11, 12, 13, 14, 15, 16, 17, 18, 19, 20, 21, 22, 23, 24, 25, 26, 27, 28, 29, 30, 31, 32, 33, 34, 35, 36, 37, 38, 39, 40, 41, 42, 43, 44, 45, 46, 47, 48, 6, 49, 50, 1, 2, 58, 59, 60, 61, 62, 63, 64, 65, 66, 67, 68, 69, 70, 71, 53, 54, 55, 56, 57, 72, 73, 74, 75] (by decide +kernel) (by decide +kernel)
set_option maxRecDepth 20000 in
theorem gX0_seekVector_X0_tryVector : GoodIn wsX0_seekVector (wsV RX0 107 RX0 yX0_tryVector wsX0_tryVector) := goodIn_app (goodIn_of _ (by decide +kernel)) ggX0_seekVector_X0_tryVector
set_option maxRecDepth 20000 in
theorem ggX0_seekVector_X5_isWithin : GoodIn wsX0_seekVector wsX5_isWithin := goodIn_r _ [52] (by decide +kernel) (by decide +kernel)
set_option maxRecDepth 20000 in
theorem gX0_seekVector_X5_isWithin_n111 : GoodIn wsX0_seekVector (wsX5_isWithin) := ggX0_seekVector_X5_isWithin
theorem dX0_seekVector_0 : decode cX0_seekVector 0 = .ok (.bipush (-6), 2) := by decide +kernel
theorem dX0_seekVector_2 : decode cX0_seekVector 2 = .ok (.istore 4, 2) := by decide +kernel
theorem dX0_seekVector_4 : decode cX0_seekVector 4 = .ok (.iload 4, 2) := by decide +kernel
theorem dX0_seekVector_6 : decode cX0_seekVector 6 = .ok (.bipush 6, 2) := by decide +kernel
theorem dX0_seekVector_8 : decode cX0_seekVector 8 = .ok (.if_icmp .gt 37, 3) := by decide +kernel
theorem dX0_seekVector_11 : decode cX0_seekVector 11 = .ok (.bipush (-6), 2) := by decide +kernel
theorem dX0_seekVector_13 : decode cX0_seekVector 13 = .ok (.istore 5, 2) := by decide +kernel
theorem dX0_seekVector_15 : decode cX0_seekVector 15 = .ok (.iload 5, 2) := by decide +kernel
theorem dX0_seekVector_17 : decode cX0_seekVector 17 = .ok (.bipush 6, 2) := by decide +kernel
theorem dX0_seekVector_19 : decode cX0_seekVector 19 = .ok (.if_icmp .gt 20, 3) := by decide +kernel
theorem dX0_seekVector_22 : decode cX0_seekVector 22 = .ok (.aload_n 0, 1) := by decide +kernel
theorem dX0_seekVector_23 : decode cX0_seekVector 23 = .ok (.aload_n 1, 1) := by decide +kernel
theorem dX0_seekVector_24 : decode cX0_seekVector 24 = .ok (.aload_n 2, 1) := by decide +kernel
theorem dX0_seekVector_25 : decode cX0_seekVector 25 = .ok (.iload_n 3, 1) := by decide +kernel
theorem dX0_seekVector_26 : decode cX0_seekVector 26 = .ok (.iload 5, 2) := by decide +kernel
theorem dX0_seekVector_28 : decode cX0_seekVector 28 = .ok (.iload 4, 2) := by decide +kernel
theorem dX0_seekVector_30 : decode cX0_seekVector 30 = .ok (.invokevirtual 107, 3) := by decide +kernel
theorem dX0_seekVector_33 : decode cX0_seekVector 33 = .ok (.iinc 5 2, 3) := by decide +kernel
theorem dX0_seekVector_36 : decode cX0_seekVector 36 = .ok (.goto (-21), 3) := by decide +kernel
theorem dX0_seekVector_39 : decode cX0_seekVector 39 = .ok (.iinc 4 2, 3) := by decide +kernel
theorem dX0_seekVector_42 : decode cX0_seekVector 42 = .ok (.goto (-38), 3) := by decide +kernel
theorem dX0_seekVector_45 : decode cX0_seekVector 45 = .ok (.aload_n 0, 1) := by decide +kernel
theorem dX0_seekVector_46 : decode cX0_seekVector 46 = .ok (.getfield 22, 3) := by decide +kernel
theorem dX0_seekVector_49 : decode cX0_seekVector 49 = .ok (.istore 4, 2) := by decide +kernel
theorem dX0_seekVector_51 : decode cX0_seekVector 51 = .ok (.aload_n 0, 1) := by decide +kernel
theorem dX0_seekVector_52 : decode cX0_seekVector 52 = .ok (.getfield 25, 3) := by decide +kernel
theorem dX0_seekVector_55 : decode cX0_seekVector 55 = .ok (.istore 5, 2) := by decide +kernel
theorem dX0_seekVector_57 : decode cX0_seekVector 57 = .ok (.iload 5, 2) := by decide +kernel
theorem dX0_seekVector_59 : decode cX0_seekVector 59 = .ok (.iconst 1, 1) := by decide +kernel
theorem dX0_seekVector_60 : decode cX0_seekVector 60 = .ok (.isub, 1) := by decide +kernel
theorem dX0_seekVector_61 : decode cX0_seekVector 61 = .ok (.istore 6, 2) := by decide +kernel
theorem dX0_seekVector_63 : decode cX0_seekVector 63 = .ok (.iload 6, 2) := by decide +kernel
theorem dX0_seekVector_65 : decode cX0_seekVector 65 = .ok (.iload 5, 2) := by decide +kernel
theorem dX0_seekVector_67 : decode cX0_seekVector 67 = .ok (.iconst 1, 1) := by decide +kernel
theorem dX0_seekVector_68 : decode cX0_seekVector 68 = .ok (.iadd, 1) := by decide +kernel
theorem dX0_seekVector_69 : decode cX0_seekVector 69 = .ok (.if_icmp .gt 65, 3) := by decide +kernel
theorem dX0_seekVector_72 : decode cX0_seekVector 72 = .ok (.iload 4, 2) := by decide +kernel
theorem dX0_seekVector_74 : decode cX0_seekVector 74 = .ok (.iconst 1, 1) := by decide +kernel
theorem dX0_seekVector_75 : decode cX0_seekVector 75 = .ok (.isub, 1) := by decide +kernel
theorem dX0_seekVector_76 : decode cX0_seekVector 76 = .ok (.istore 7, 2) := by decide +kernel
theorem dX0_seekVector_78 : decode cX0_seekVector 78 = .ok (.iload 7, 2) := by decide +kernel
theorem dX0_seekVector_80 : decode cX0_seekVector 80 = .ok (.iload 4, 2) := by decide +kernel
theorem dX0_seekVector_82 : decode cX0_seekVector 82 = .ok (.iconst 1, 1) := by decide +kernel
theorem dX0_seekVector_83 : decode cX0_seekVector 83 = .ok (.iadd, 1) := by decide +kernel
theorem dX0_seekVector_84 : decode cX0_seekVector 84 = .ok (.if_icmp .gt 44, 3) := by decide +kernel
theorem dX0_seekVector_87 : decode cX0_seekVector 87 = .ok (.iload 7, 2) := by decide +kernel
theorem dX0_seekVector_89 : decode cX0_seekVector 89 = .ok (.bipush (-6), 2) := by decide +kernel
theorem dX0_seekVector_91 : decode cX0_seekVector 91 = .ok (.bipush 6, 2) := by decide +kernel
theorem dX0_seekVector_93 : decode cX0_seekVector 93 = .ok (.invokestatic 111, 3) := by decide +kernel
theorem dX0_seekVector_96 : decode cX0_seekVector 96 = .ok (.ifCond .eq 26, 3) := by decide +kernel
theorem dX0_seekVector_99 : decode cX0_seekVector 99 = .ok (.iload 6, 2) := by decide +kernel
theorem dX0_seekVector_101 : decode cX0_seekVector 101 = .ok (.bipush (-6), 2) := by decide +kernel
theorem dX0_seekVector_103 : decode cX0_seekVector 103 = .ok (.bipush 6, 2) := by decide +kernel
theorem dX0_seekVector_105 : decode cX0_seekVector 105 = .ok (.invokestatic 111, 3) := by decide +kernel
theorem dX0_seekVector_108 : decode cX0_seekVector 108 = .ok (.ifCond .eq 14, 3) := by decide +kernel
theorem dX0_seekVector_111 : decode cX0_seekVector 111 = .ok (.aload_n 0, 1) := by decide +kernel
theorem dX0_seekVector_112 : decode cX0_seekVector 112 = .ok (.aload_n 1, 1) := by decide +kernel
theorem dX0_seekVector_113 : decode cX0_seekVector 113 = .ok (.aload_n 2, 1) := by decide +kernel
theorem dX0_seekVector_114 : decode cX0_seekVector 114 = .ok (.iload_n 3, 1) := by decide +kernel
theorem dX0_seekVector_115 : decode cX0_seekVector 115 = .ok (.iload 7, 2) := by decide +kernel
theorem dX0_seekVector_117 : decode cX0_seekVector 117 = .ok (.iload 6, 2) := by decide +kernel
theorem dX0_seekVector_119 : decode cX0_seekVector 119 = .ok (.invokevirtual 107, 3) := by decide +kernel
theorem dX0_seekVector_122 : decode cX0_seekVector 122 = .ok (.iinc 7 1, 3) := by decide +kernel
theorem dX0_seekVector_125 : decode cX0_seekVector 125 = .ok (.goto (-47), 3) := by decide +kernel
theorem dX0_seekVector_128 : decode cX0_seekVector 128 = .ok (.iinc 6 1, 3) := by decide +kernel
theorem dX0_seekVector_131 : decode cX0_seekVector 131 = .ok (.goto (-68), 3) := by decide +kernel
theorem dX0_seekVector_134 : decode cX0_seekVector 134 = .ok (.return_, 1) := by decide +kernel
set_option maxRecDepth 20000 in
theorem ggX0_tryVector_X2_expectedX : GoodIn wsX0_tryVector wsX2_expectedX := goodIn_r _ [12, 13, 14, 15, 16, 47, 48, 49, 50, 51, 52, 53, 54, 55, 56, 57, 58, 59, 60] (by decide +kernel) (by decide +kernel)
set_option maxRecDepth 20000 in
theorem gX0_tryVector_X2_expectedX : GoodIn wsX0_tryVector (wsV RX0 84 RX2 yX2_expectedX wsX2_expectedX) := goodIn_app (goodIn_of _ (by decide +kernel)) ggX0_tryVector_X2_expectedX
set_option maxRecDepth 20000 in
theorem ggX0_tryVector_X2_expectedY : GoodIn wsX0_tryVector wsX2_expectedY := goodIn_r _ [20, 21, 14, 15, 16, 47, 48, 49, 50, 51, 52, 53, 54, 55, 56, 57, 58, 59, 60] (by decide +kernel) (by decide +kernel)
set_option maxRecDepth 20000 in
theorem gX0_tryVector_X2_expectedY : GoodIn wsX0_tryVector (wsV RX0 88 RX2 yX2_expectedY wsX2_expectedY) := goodIn_app (goodIn_of _ (by decide +kernel)) ggX0_tryVector_X2_expectedY
set_option maxRecDepth 20000 in
theorem ggX0_tryVector_X3_differenceMoved : GoodIn wsX0_tryVector wsX3_differenceMoved := goodIn_r _ [26, 27, 2, 3, 4, 28, 29, 30, 25, 31, 32, 15, 33, 34, 35, 36, 37, 38, 66, 67, 68, 69] (by decide +kernel) (by decide +kernel)
set_option maxRecDepth 20000 in
theorem gX0_tryVector_X3_differenceMoved : GoodIn wsX0_tryVector (wsV RX0 120 RX3 yX3_differenceMoved wsX3_differenceMoved) := goodIn_app (goodIn_of _ (by decide +kernel)) ggX0_tryVector_X3_differenceMoved
set_option maxRecDepth 20000 in
theorem ggX0_tryVector_X0_take : GoodIn wsX0_tryVector wsX0_take := goodIn_r _ [43, 44, 45, 46, 7, 61, 62, 63, 64, 65] (by decide +kernel) (by decide +kernel)
set_option maxRecDepth 20000 in
theorem gX0_tryVector_X0_take : GoodIn wsX0_tryVector (wsV RX0 124 RX0 yX0_take wsX0_take) := goodIn_app (goodIn_of _ (by decide +kernel)) ggX0_tryVector_X0_take
theorem dX0_tryVector_0 : decode cX0_tryVector 0 = .ok (.iload 4, 2) := by decide +kernel
theorem dX0_tryVector_2 : decode cX0_tryVector 2 = .ok (.aload_n 1, 1) := by decide +kernel
theorem dX0_tryVector_3 : decode cX0_tryVector 3 = .ok (.iload_n 3, 1) := by decide +kernel
theorem dX0_tryVector_4 : decode cX0_tryVector 4 = .ok (.invokevirtual 84, 3) := by decide +kernel
theorem dX0_tryVector_7 : decode cX0_tryVector 7 = .ok (.isub, 1) := by decide +kernel
theorem dX0_tryVector_8 : decode cX0_tryVector 8 = .ok (.invokestatic 115, 3) := by decide +kernel
theorem dX0_tryVector_11 : decode cX0_tryVector 11 = .ok (.iload 5, 2) := by decide +kernel
theorem dX0_tryVector_13 : decode cX0_tryVector 13 = .ok (.aload_n 1, 1) := by decide +kernel
theorem dX0_tryVector_14 : decode cX0_tryVector 14 = .ok (.iload_n 3, 1) := by decide +kernel
theorem dX0_tryVector_15 : decode cX0_tryVector 15 = .ok (.invokevirtual 88, 3) := by decide +kernel
theorem dX0_tryVector_18 : decode cX0_tryVector 18 = .ok (.isub, 1) := by decide +kernel
theorem dX0_tryVector_19 : decode cX0_tryVector 19 = .ok (.invokestatic 115, 3) := by decide +kernel
theorem dX0_tryVector_22 : decode cX0_tryVector 22 = .ok (.iadd, 1) := by decide +kernel
theorem dX0_tryVector_23 : decode cX0_tryVector 23 = .ok (.istore 6, 2) := by decide +kernel
theorem dX0_tryVector_25 : decode cX0_tryVector 25 = .ok (.aload_n 1, 1) := by decide +kernel
theorem dX0_tryVector_26 : decode cX0_tryVector 26 = .ok (.getfield 41, 3) := by decide +kernel
theorem dX0_tryVector_29 : decode cX0_tryVector 29 = .ok (.iconst 2, 1) := by decide +kernel
theorem dX0_tryVector_30 : decode cX0_tryVector 30 = .ok (.iload 6, 2) := by decide +kernel
theorem dX0_tryVector_32 : decode cX0_tryVector 32 = .ok (.iadd, 1) := by decide +kernel
theorem dX0_tryVector_33 : decode cX0_tryVector 33 = .ok (.imul, 1) := by decide +kernel
theorem dX0_tryVector_34 : decode cX0_tryVector 34 = .ok (.istore 7, 2) := by decide +kernel
theorem dX0_tryVector_36 : decode cX0_tryVector 36 = .ok (.iload 7, 2) := by decide +kernel
theorem dX0_tryVector_38 : decode cX0_tryVector 38 = .ok (.aload_n 0, 1) := by decide +kernel
theorem dX0_tryVector_39 : decode cX0_tryVector 39 = .ok (.getfield 12, 3) := by decide +kernel
theorem dX0_tryVector_42 : decode cX0_tryVector 42 = .ok (.aload_n 2, 1) := by decide +kernel
theorem dX0_tryVector_43 : decode cX0_tryVector 43 = .ok (.iload_n 3, 1) := by decide +kernel
theorem dX0_tryVector_44 : decode cX0_tryVector 44 = .ok (.iload 4, 2) := by decide +kernel
theorem dX0_tryVector_46 : decode cX0_tryVector 46 = .ok (.iload 5, 2) := by decide +kernel
theorem dX0_tryVector_48 : decode cX0_tryVector 48 = .ok (.aload_n 0, 1) := by decide +kernel
theorem dX0_tryVector_49 : decode cX0_tryVector 49 = .ok (.getfield 28, 3) := by decide +kernel
theorem dX0_tryVector_52 : decode cX0_tryVector 52 = .ok (.iload 7, 2) := by decide +kernel
theorem dX0_tryVector_54 : decode cX0_tryVector 54 = .ok (.isub, 1) := by decide +kernel
theorem dX0_tryVector_55 : decode cX0_tryVector 55 = .ok (.invokevirtual 120, 3) := by decide +kernel
theorem dX0_tryVector_58 : decode cX0_tryVector 58 = .ok (.iadd, 1) := by decide +kernel
theorem dX0_tryVector_59 : decode cX0_tryVector 59 = .ok (.istore 8, 2) := by decide +kernel
theorem dX0_tryVector_61 : decode cX0_tryVector 61 = .ok (.iload 8, 2) := by decide +kernel
theorem dX0_tryVector_63 : decode cX0_tryVector 63 = .ok (.aload_n 0, 1) := by decide +kernel
theorem dX0_tryVector_64 : decode cX0_tryVector 64 = .ok (.getfield 28, 3) := by decide +kernel
theorem dX0_tryVector_67 : decode cX0_tryVector 67 = .ok (.if_icmp .ge 14, 3) := by decide +kernel
theorem dX0_tryVector_70 : decode cX0_tryVector 70 = .ok (.aload_n 0, 1) := by decide +kernel
theorem dX0_tryVector_71 : decode cX0_tryVector 71 = .ok (.iconst 1, 1) := by decide +kernel
theorem dX0_tryVector_72 : decode cX0_tryVector 72 = .ok (.iload 4, 2) := by decide +kernel
theorem dX0_tryVector_74 : decode cX0_tryVector 74 = .ok (.iload 5, 2) := by decide +kernel
theorem dX0_tryVector_76 : decode cX0_tryVector 76 = .ok (.iload 8, 2) := by decide +kernel
theorem dX0_tryVector_78 : decode cX0_tryVector 78 = .ok (.invokevirtual 124, 3) := by decide +kernel
theorem dX0_tryVector_81 : decode cX0_tryVector 81 = .ok (.return_, 1) := by decide +kernel
set_option maxRecDepth 20000 in
theorem ggX0_tryKind_X3_foretell : GoodIn wsX0_tryKind wsX3_foretell := goodIn_r _ [7, 8, 9, 10, 6, 11, 12, 13, 14, 15, 16, 17, 18, 19, 20, 21, 22, 23, 24, 25, 26, 27, 28, 29, 30, 31, 32, 33, 34, 35, 36, 37, 38, 39, 40, 41, 42, 43, 44, 45, 67, 68, 69, 70] (by decide +kernel) (by decide +kernel)
set_option maxRecDepth 20000 in
theorem gX0_tryKind_X3_foretell : GoodIn wsX0_tryKind (wsV RX0 73 RX3 yX3_foretell wsX3_foretell) := goodIn_app (goodIn_of _ (by decide +kernel)) ggX0_tryKind_X3_foretell
set_option maxRecDepth 20000 in
theorem ggX0_tryKind_X3_difference : GoodIn wsX0_tryKind wsX3_difference := goodIn_r _ [49, 12, 50, 51, 52, 53, 30, 28, 31, 67, 68, 69, 70] (by decide +kernel) (by decide +kernel)
set_option maxRecDepth 20000 in
theorem gX0_tryKind_X3_difference : GoodIn wsX0_tryKind (wsV RX0 127 RX3 yX3_difference wsX3_difference) := goodIn_app (goodIn_of _ (by decide +kernel)) ggX0_tryKind_X3_difference
set_option maxRecDepth 20000 in
theorem ggX0_tryKind_X0_take : GoodIn wsX0_tryKind wsX0_take := goodIn_r _ [58, 59, 60, 61, 2, 62, 63, 64, 65, 66] (by decide +kernel) (by decide +kernel)
set_option maxRecDepth 20000 in
theorem gX0_tryKind_X0_take : GoodIn wsX0_tryKind (wsV RX0 124 RX0 yX0_take wsX0_take) := goodIn_app (goodIn_of _ (by decide +kernel)) ggX0_tryKind_X0_take
theorem dX0_tryKind_0 : decode cX0_tryKind 0 = .ok (.aload_n 0, 1) := by decide +kernel
theorem dX0_tryKind_1 : decode cX0_tryKind 1 = .ok (.getfield 12, 3) := by decide +kernel
theorem dX0_tryKind_4 : decode cX0_tryKind 4 = .ok (.iload_n 1, 1) := by decide +kernel
theorem dX0_tryKind_5 : decode cX0_tryKind 5 = .ok (.iload_n 3, 1) := by decide +kernel
theorem dX0_tryKind_6 : decode cX0_tryKind 6 = .ok (.iconst 0, 1) := by decide +kernel
theorem dX0_tryKind_7 : decode cX0_tryKind 7 = .ok (.iconst 0, 1) := by decide +kernel
theorem dX0_tryKind_8 : decode cX0_tryKind 8 = .ok (.invokevirtual 73, 3) := by decide +kernel
theorem dX0_tryKind_11 : decode cX0_tryKind 11 = .ok (.aload_n 0, 1) := by decide +kernel
theorem dX0_tryKind_12 : decode cX0_tryKind 12 = .ok (.getfield 12, 3) := by decide +kernel
theorem dX0_tryKind_15 : decode cX0_tryKind 15 = .ok (.aload_n 2, 1) := by decide +kernel
theorem dX0_tryKind_16 : decode cX0_tryKind 16 = .ok (.iload_n 3, 1) := by decide +kernel
theorem dX0_tryKind_17 : decode cX0_tryKind 17 = .ok (.invokevirtual 127, 3) := by decide +kernel
theorem dX0_tryKind_20 : decode cX0_tryKind 20 = .ok (.iload 4, 2) := by decide +kernel
theorem dX0_tryKind_22 : decode cX0_tryKind 22 = .ok (.iadd, 1) := by decide +kernel
theorem dX0_tryKind_23 : decode cX0_tryKind 23 = .ok (.istore 5, 2) := by decide +kernel
theorem dX0_tryKind_25 : decode cX0_tryKind 25 = .ok (.iload 5, 2) := by decide +kernel
theorem dX0_tryKind_27 : decode cX0_tryKind 27 = .ok (.aload_n 0, 1) := by decide +kernel
theorem dX0_tryKind_28 : decode cX0_tryKind 28 = .ok (.getfield 28, 3) := by decide +kernel
theorem dX0_tryKind_31 : decode cX0_tryKind 31 = .ok (.if_icmp .ge 12, 3) := by decide +kernel
theorem dX0_tryKind_34 : decode cX0_tryKind 34 = .ok (.aload_n 0, 1) := by decide +kernel
theorem dX0_tryKind_35 : decode cX0_tryKind 35 = .ok (.iload_n 1, 1) := by decide +kernel
theorem dX0_tryKind_36 : decode cX0_tryKind 36 = .ok (.iconst 0, 1) := by decide +kernel
theorem dX0_tryKind_37 : decode cX0_tryKind 37 = .ok (.iconst 0, 1) := by decide +kernel
theorem dX0_tryKind_38 : decode cX0_tryKind 38 = .ok (.iload 5, 2) := by decide +kernel
theorem dX0_tryKind_40 : decode cX0_tryKind 40 = .ok (.invokevirtual 124, 3) := by decide +kernel
theorem dX0_tryKind_43 : decode cX0_tryKind 43 = .ok (.return_, 1) := by decide +kernel
theorem dX0_take_0 : decode cX0_take 0 = .ok (.aload_n 0, 1) := by decide +kernel
theorem dX0_take_1 : decode cX0_take 1 = .ok (.iload_n 1, 1) := by decide +kernel
theorem dX0_take_2 : decode cX0_take 2 = .ok (.putfield 18, 3) := by decide +kernel
theorem dX0_take_5 : decode cX0_take 5 = .ok (.aload_n 0, 1) := by decide +kernel
theorem dX0_take_6 : decode cX0_take 6 = .ok (.iload_n 2, 1) := by decide +kernel
theorem dX0_take_7 : decode cX0_take 7 = .ok (.putfield 22, 3) := by decide +kernel
theorem dX0_take_10 : decode cX0_take 10 = .ok (.aload_n 0, 1) := by decide +kernel
theorem dX0_take_11 : decode cX0_take 11 = .ok (.iload_n 3, 1) := by decide +kernel
theorem dX0_take_12 : decode cX0_take 12 = .ok (.putfield 25, 3) := by decide +kernel
theorem dX0_take_15 : decode cX0_take 15 = .ok (.aload_n 0, 1) := by decide +kernel
theorem dX0_take_16 : decode cX0_take 16 = .ok (.iload 4, 2) := by decide +kernel
theorem dX0_take_18 : decode cX0_take 18 = .ok (.putfield 28, 3) := by decide +kernel
theorem dX0_take_21 : decode cX0_take 21 = .ok (.return_, 1) := by decide +kernel
theorem dX1_init_0 : decode cX1_init 0 = .ok (.aload_n 0, 1) := by decide +kernel
theorem dX1_init_1 : decode cX1_init 1 = .ok (.invokespecial 3, 3) := by decide +kernel
theorem dX1_init_4 : decode cX1_init 4 = .ok (.aload_n 0, 1) := by decide +kernel
theorem dX1_init_5 : decode cX1_init 5 = .ok (.sipush 2487, 3) := by decide +kernel
theorem dX1_init_8 : decode cX1_init 8 = .ok (.newarray .int, 2) := by decide +kernel
theorem dX1_init_10 : decode cX1_init 10 = .ok (.putfield 11, 3) := by decide +kernel
theorem dX1_init_13 : decode cX1_init 13 = .ok (.aload_n 0, 1) := by decide +kernel
theorem dX1_init_14 : decode cX1_init 14 = .ok (.iconst 5, 1) := by decide +kernel
theorem dX1_init_15 : decode cX1_init 15 = .ok (.newarray .int, 2) := by decide +kernel
theorem dX1_init_17 : decode cX1_init 17 = .ok (.putfield 15, 3) := by decide +kernel
theorem dX1_init_20 : decode cX1_init 20 = .ok (.aload_n 0, 1) := by decide +kernel
theorem dX1_init_21 : decode cX1_init 21 = .ok (.iconst 3, 1) := by decide +kernel
theorem dX1_init_22 : decode cX1_init 22 = .ok (.newarray .int, 2) := by decide +kernel
theorem dX1_init_24 : decode cX1_init 24 = .ok (.putfield 18, 3) := by decide +kernel
theorem dX1_init_27 : decode cX1_init 27 = .ok (.aload_n 0, 1) := by decide +kernel
theorem dX1_init_28 : decode cX1_init 28 = .ok (.iconst 0, 1) := by decide +kernel
theorem dX1_init_29 : decode cX1_init 29 = .ok (.putfield 21, 3) := by decide +kernel
theorem dX1_init_32 : decode cX1_init 32 = .ok (.return_, 1) := by decide +kernel
set_option maxRecDepth 20000 in
theorem ggX1_copyOfBytes_X5_onRow : GoodIn wsX1_copyOfBytes wsX5_onRow := goodIn_r _ [4, 5, 6, 7, 8, 9, 10, 11] (by decide +kernel) (by decide +kernel)
set_option maxRecDepth 20000 in
theorem gX1_copyOfBytes_X5_onRow_n25 : GoodIn wsX1_copyOfBytes (wsX5_onRow) := ggX1_copyOfBytes_X5_onRow
set_option maxRecDepth 20000 in
theorem ggX1_copyOfBytes_J7_copyOf_59c91 : GoodIn wsX1_copyOfBytes wsJ7_copyOf_59c91 := goodIn_r _ [15, 16, 17, 18, 19, 20, 21, 22, 23, 6, 7, 8, 24, 25, 26, 27] (by decide +kernel) (by decide +kernel)
set_option maxRecDepth 20000 in
theorem gX1_copyOfBytes_J7_copyOf_59c91 : GoodIn wsX1_copyOfBytes (va_wsS RX1 29 yJ7_copyOf_59c91 wsJ7_copyOf_59c91) := goodIn_app (goodIn_of _ (by decide +kernel)) ggX1_copyOfBytes_J7_copyOf_59c91
theorem dX1_copyOfBytes_0 : decode cX1_copyOfBytes 0 = .ok (.aload_n 0, 1) := by decide +kernel
theorem dX1_copyOfBytes_1 : decode cX1_copyOfBytes 1 = .ok (.getfield 11, 3) := by decide +kernel
theorem dX1_copyOfBytes_4 : decode cX1_copyOfBytes 4 = .ok (.iload_n 1, 1) := by decide +kernel
theorem dX1_copyOfBytes_5 : decode cX1_copyOfBytes 5 = .ok (.sipush 2488, 3) := by decide +kernel
theorem dX1_copyOfBytes_8 : decode cX1_copyOfBytes 8 = .ok (.invokestatic 25, 3) := by decide +kernel
theorem dX1_copyOfBytes_11 : decode cX1_copyOfBytes 11 = .ok (.invokestatic 29, 3) := by decide +kernel
theorem dX1_copyOfBytes_14 : decode cX1_copyOfBytes 14 = .ok (.areturn, 1) := by decide +kernel
set_option maxRecDepth 20000 in
theorem ggX1_write_J7_fill_53178 : GoodIn wsX1_write wsJ7_fill_53178 := goodIn_r _ [7] (by decide +kernel) (by decide +kernel)
set_option maxRecDepth 20000 in
theorem gX1_write_J7_fill_53178 : GoodIn wsX1_write (va_wsS RX1 35 yJ7_fill_53178 wsJ7_fill_53178) := goodIn_app (goodIn_of _ (by decide +kernel)) ggX1_write_J7_fill_53178
set_option maxRecDepth 20000 in
theorem ggX1_write_X1_startBand : GoodIn wsX1_write wsX1_startBand := goodIn_r _ [12, 13, 14, 15, 16, 17, 18, 4, 5, 6, 7, 19, 20, 21, 11, 22, 2, 1, 72, 73, 74, 75, 76, 77, 78, 79, 80, 81, 82, 83, 84, 85, 86, 87, 88, 89] (by decide +kernel) (by decide +kernel)
set_option maxRecDepth 20000 in
theorem gX1_write_X1_startBand : GoodIn wsX1_write (wsV RX1 39 RX1 yX1_startBand wsX1_startBand) := goodIn_app (goodIn_of _ (by decide +kernel)) ggX1_write_X1_startBand
set_option maxRecDepth 20000 in
theorem ggX1_write_X1_writeBlock : GoodIn wsX1_write wsX1_writeBlock := goodIn_r _ [26, 27, 28, 29, 30, 31, 32, 33, 11, 34, 13, 35, 36, 37, 38, 19, 20, 21, 22, 2, 1, 39, 40, 41, 42, 43, 44, 45, 46, 47, 48, 49, 50, 51, 52, 53, 54, 55, 56, 57, 58, 59, 60, 61, 62, 63, 64, 65, 66, 14, 76, 77, 78, 79, 80, 81, 82, 83, 84, 85, 86, 87, 88, 89, 72, 73, 74, 75] (by decide +kernel) (by decide +kernel)
set_option maxRecDepth 20000 in
theorem gX1_write_X1_writeBlock : GoodIn wsX1_write (wsV RX1 43 RX1 yX1_writeBlock wsX1_writeBlock) := goodIn_app (goodIn_of _ (by decide +kernel)) ggX1_write_X1_writeBlock
set_option maxRecDepth 20000 in
theorem ggX1_write_X2_bytesIn : GoodIn wsX1_write wsX2_bytesIn := goodIn_r _ [70, 71, 76, 77, 78, 79, 80, 81, 82, 83, 84, 85, 86, 87, 88, 89] (by decide +kernel) (by decide +kernel)
set_option maxRecDepth 20000 in
theorem gX1_write_X2_bytesIn : GoodIn wsX1_write (wsV RX1 52 RX2 yX2_bytesIn wsX2_bytesIn) := goodIn_app (goodIn_of _ (by decide +kernel)) ggX1_write_X2_bytesIn
theorem dX1_write_0 : decode cX1_write 0 = .ok (.aload_n 0, 1) := by decide +kernel
theorem dX1_write_1 : decode cX1_write 1 = .ok (.getfield 11, 3) := by decide +kernel
theorem dX1_write_4 : decode cX1_write 4 = .ok (.iconst 0, 1) := by decide +kernel
theorem dX1_write_5 : decode cX1_write 5 = .ok (.invokestatic 35, 3) := by decide +kernel
theorem dX1_write_8 : decode cX1_write 8 = .ok (.aload_n 0, 1) := by decide +kernel
theorem dX1_write_9 : decode cX1_write 9 = .ok (.iconst 0, 1) := by decide +kernel
theorem dX1_write_10 : decode cX1_write 10 = .ok (.putfield 21, 3) := by decide +kernel
theorem dX1_write_13 : decode cX1_write 13 = .ok (.iconst 0, 1) := by decide +kernel
theorem dX1_write_14 : decode cX1_write 14 = .ok (.istore_n 2, 1) := by decide +kernel
theorem dX1_write_15 : decode cX1_write 15 = .ok (.iload_n 2, 1) := by decide +kernel
theorem dX1_write_16 : decode cX1_write 16 = .ok (.iconst 3, 1) := by decide +kernel
theorem dX1_write_17 : decode cX1_write 17 = .ok (.if_icmp .ge 71, 3) := by decide +kernel
theorem dX1_write_20 : decode cX1_write 20 = .ok (.aload_n 0, 1) := by decide +kernel
theorem dX1_write_21 : decode cX1_write 21 = .ok (.getfield 21, 3) := by decide +kernel
theorem dX1_write_24 : decode cX1_write 24 = .ok (.istore_n 3, 1) := by decide +kernel
theorem dX1_write_25 : decode cX1_write 25 = .ok (.aload_n 0, 1) := by decide +kernel
theorem dX1_write_26 : decode cX1_write 26 = .ok (.aload_n 1, 1) := by decide +kernel
theorem dX1_write_27 : decode cX1_write 27 = .ok (.invokevirtual 39, 3) := by decide +kernel
theorem dX1_write_30 : decode cX1_write 30 = .ok (.iconst 0, 1) := by decide +kernel
theorem dX1_write_31 : decode cX1_write 31 = .ok (.istore 4, 2) := by decide +kernel
theorem dX1_write_33 : decode cX1_write 33 = .ok (.iload 4, 2) := by decide +kernel
theorem dX1_write_35 : decode cX1_write 35 = .ok (.iconst 4, 1) := by decide +kernel
theorem dX1_write_36 : decode cX1_write 36 = .ok (.if_icmp .ge 20, 3) := by decide +kernel
theorem dX1_write_39 : decode cX1_write 39 = .ok (.aload_n 0, 1) := by decide +kernel
theorem dX1_write_40 : decode cX1_write 40 = .ok (.aload_n 1, 1) := by decide +kernel
theorem dX1_write_41 : decode cX1_write 41 = .ok (.iload_n 2, 1) := by decide +kernel
theorem dX1_write_42 : decode cX1_write 42 = .ok (.iconst 4, 1) := by decide +kernel
theorem dX1_write_43 : decode cX1_write 43 = .ok (.imul, 1) := by decide +kernel
theorem dX1_write_44 : decode cX1_write 44 = .ok (.iload 4, 2) := by decide +kernel
theorem dX1_write_46 : decode cX1_write 46 = .ok (.iadd, 1) := by decide +kernel
theorem dX1_write_47 : decode cX1_write 47 = .ok (.invokevirtual 43, 3) := by decide +kernel
theorem dX1_write_50 : decode cX1_write 50 = .ok (.iinc 4 1, 3) := by decide +kernel
theorem dX1_write_53 : decode cX1_write 53 = .ok (.goto (-20), 3) := by decide +kernel
theorem dX1_write_56 : decode cX1_write 56 = .ok (.aload_n 1, 1) := by decide +kernel
theorem dX1_write_57 : decode cX1_write 57 = .ok (.getfield 47, 3) := by decide +kernel
theorem dX1_write_60 : decode cX1_write 60 = .ok (.iload_n 2, 1) := by decide +kernel
theorem dX1_write_61 : decode cX1_write 61 = .ok (.aload_n 0, 1) := by decide +kernel
theorem dX1_write_62 : decode cX1_write 62 = .ok (.getfield 21, 3) := by decide +kernel
theorem dX1_write_65 : decode cX1_write 65 = .ok (.iload_n 3, 1) := by decide +kernel
theorem dX1_write_66 : decode cX1_write 66 = .ok (.isub, 1) := by decide +kernel
theorem dX1_write_67 : decode cX1_write 67 = .ok (.iastore, 1) := by decide +kernel
theorem dX1_write_68 : decode cX1_write 68 = .ok (.aload_n 0, 1) := by decide +kernel
theorem dX1_write_69 : decode cX1_write 69 = .ok (.iload_n 3, 1) := by decide +kernel
theorem dX1_write_70 : decode cX1_write 70 = .ok (.aload_n 1, 1) := by decide +kernel
theorem dX1_write_71 : decode cX1_write 71 = .ok (.iload_n 2, 1) := by decide +kernel
theorem dX1_write_72 : decode cX1_write 72 = .ok (.invokevirtual 52, 3) := by decide +kernel
theorem dX1_write_75 : decode cX1_write 75 = .ok (.bipush 8, 2) := by decide +kernel
theorem dX1_write_77 : decode cX1_write 77 = .ok (.imul, 1) := by decide +kernel
theorem dX1_write_78 : decode cX1_write 78 = .ok (.iadd, 1) := by decide +kernel
theorem dX1_write_79 : decode cX1_write 79 = .ok (.putfield 21, 3) := by decide +kernel
theorem dX1_write_82 : decode cX1_write 82 = .ok (.iinc 2 1, 3) := by decide +kernel
theorem dX1_write_85 : decode cX1_write 85 = .ok (.goto (-70), 3) := by decide +kernel
theorem dX1_write_88 : decode cX1_write 88 = .ok (.return_, 1) := by decide +kernel
set_option maxRecDepth 20000 in
theorem ggX1_startBand_J7_fill_53178 : GoodIn wsX1_startBand wsJ7_fill_53178 := goodIn_r _ [10] (by decide +kernel) (by decide +kernel)
set_option maxRecDepth 20000 in
theorem gX1_startBand_J7_fill_53178 : GoodIn wsX1_startBand (va_wsS RX1 35 yJ7_fill_53178 wsJ7_fill_53178) := goodIn_app (goodIn_of _ (by decide +kernel)) ggX1_startBand_J7_fill_53178
set_option maxRecDepth 20000 in
theorem ggX1_startBand_X1_put : GoodIn wsX1_startBand wsX1_put := goodIn_r _ [15, 16, 17, 18, 19, 20, 21] (by decide +kernel) (by decide +kernel)
set_option maxRecDepth 20000 in
theorem gX1_startBand_X1_put : GoodIn wsX1_startBand (wsV RX1 59 RX1 yX1_put wsX1_put) := goodIn_app (goodIn_of _ (by decide +kernel)) ggX1_startBand_X1_put
theorem dX1_startBand_0 : decode cX1_startBand 0 = .ok (.iconst 0, 1) := by decide +kernel
theorem dX1_startBand_1 : decode cX1_startBand 1 = .ok (.istore_n 2, 1) := by decide +kernel
theorem dX1_startBand_2 : decode cX1_startBand 2 = .ok (.iload_n 2, 1) := by decide +kernel
theorem dX1_startBand_3 : decode cX1_startBand 3 = .ok (.iconst 5, 1) := by decide +kernel
theorem dX1_startBand_4 : decode cX1_startBand 4 = .ok (.if_icmp .ge 16, 3) := by decide +kernel
theorem dX1_startBand_7 : decode cX1_startBand 7 = .ok (.aload_n 0, 1) := by decide +kernel
theorem dX1_startBand_8 : decode cX1_startBand 8 = .ok (.getfield 15, 3) := by decide +kernel
theorem dX1_startBand_11 : decode cX1_startBand 11 = .ok (.iload_n 2, 1) := by decide +kernel
theorem dX1_startBand_12 : decode cX1_startBand 12 = .ok (.iload_n 2, 1) := by decide +kernel
theorem dX1_startBand_13 : decode cX1_startBand 13 = .ok (.iastore, 1) := by decide +kernel
theorem dX1_startBand_14 : decode cX1_startBand 14 = .ok (.iinc 2 1, 3) := by decide +kernel
theorem dX1_startBand_17 : decode cX1_startBand 17 = .ok (.goto (-15), 3) := by decide +kernel
theorem dX1_startBand_20 : decode cX1_startBand 20 = .ok (.aload_n 0, 1) := by decide +kernel
theorem dX1_startBand_21 : decode cX1_startBand 21 = .ok (.getfield 18, 3) := by decide +kernel
theorem dX1_startBand_24 : decode cX1_startBand 24 = .ok (.iconst 4, 1) := by decide +kernel
theorem dX1_startBand_25 : decode cX1_startBand 25 = .ok (.invokestatic 35, 3) := by decide +kernel
theorem dX1_startBand_28 : decode cX1_startBand 28 = .ok (.aload_n 0, 1) := by decide +kernel
theorem dX1_startBand_29 : decode cX1_startBand 29 = .ok (.aload_n 1, 1) := by decide +kernel
theorem dX1_startBand_30 : decode cX1_startBand 30 = .ok (.getfield 56, 3) := by decide +kernel
theorem dX1_startBand_33 : decode cX1_startBand 33 = .ok (.iconst 5, 1) := by decide +kernel
theorem dX1_startBand_34 : decode cX1_startBand 34 = .ok (.invokevirtual 59, 3) := by decide +kernel
theorem dX1_startBand_37 : decode cX1_startBand 37 = .ok (.aload_n 0, 1) := by decide +kernel
theorem dX1_startBand_38 : decode cX1_startBand 38 = .ok (.aload_n 1, 1) := by decide +kernel
theorem dX1_startBand_39 : decode cX1_startBand 39 = .ok (.getfield 63, 3) := by decide +kernel
theorem dX1_startBand_42 : decode cX1_startBand 42 = .ok (.ifCond .eq 7, 3) := by decide +kernel
theorem dX1_startBand_45 : decode cX1_startBand 45 = .ok (.iconst 1, 1) := by decide +kernel
theorem dX1_startBand_46 : decode cX1_startBand 46 = .ok (.goto 4, 3) := by decide +kernel
theorem dX1_startBand_49 : decode cX1_startBand 49 = .ok (.iconst 0, 1) := by decide +kernel
theorem dX1_startBand_50 : decode cX1_startBand 50 = .ok (.iconst 1, 1) := by decide +kernel
theorem dX1_startBand_51 : decode cX1_startBand 51 = .ok (.invokevirtual 59, 3) := by decide +kernel
theorem dX1_startBand_54 : decode cX1_startBand 54 = .ok (.aload_n 0, 1) := by decide +kernel
theorem dX1_startBand_55 : decode cX1_startBand 55 = .ok (.aload_n 1, 1) := by decide +kernel
theorem dX1_startBand_56 : decode cX1_startBand 56 = .ok (.getfield 67, 3) := by decide +kernel
theorem dX1_startBand_59 : decode cX1_startBand 59 = .ok (.bipush 6, 2) := by decide +kernel
theorem dX1_startBand_61 : decode cX1_startBand 61 = .ok (.invokevirtual 59, 3) := by decide +kernel
theorem dX1_startBand_64 : decode cX1_startBand 64 = .ok (.aload_n 0, 1) := by decide +kernel
theorem dX1_startBand_65 : decode cX1_startBand 65 = .ok (.aload_n 1, 1) := by decide +kernel
theorem dX1_startBand_66 : decode cX1_startBand 66 = .ok (.getfield 70, 3) := by decide +kernel
theorem dX1_startBand_69 : decode cX1_startBand 69 = .ok (.ifCond .eq 7, 3) := by decide +kernel
theorem dX1_startBand_72 : decode cX1_startBand 72 = .ok (.iconst 1, 1) := by decide +kernel
theorem dX1_startBand_73 : decode cX1_startBand 73 = .ok (.goto 4, 3) := by decide +kernel
theorem dX1_startBand_76 : decode cX1_startBand 76 = .ok (.iconst 0, 1) := by decide +kernel
theorem dX1_startBand_77 : decode cX1_startBand 77 = .ok (.iconst 1, 1) := by decide +kernel
theorem dX1_startBand_78 : decode cX1_startBand 78 = .ok (.invokevirtual 59, 3) := by decide +kernel
theorem dX1_startBand_81 : decode cX1_startBand 81 = .ok (.return_, 1) := by decide +kernel
set_option maxRecDepth 20000 in
theorem ggX1_writeBlock_X1_writeKind : GoodIn wsX1_writeBlock wsX1_writeKind := goodIn_r _ [9, 10, 11, 12, 13, 8, 14, 15, 16, 17, 18, 19, 20, 64, 65, 66, 67] (by decide +kernel) (by decide +kernel)
set_option maxRecDepth 20000 in
theorem gX1_writeBlock_X1_writeKind : GoodIn wsX1_writeBlock (wsV RX1 76 RX1 yX1_writeKind wsX1_writeKind) := goodIn_app (goodIn_of _ (by decide +kernel)) ggX1_writeBlock_X1_writeKind
set_option maxRecDepth 20000 in
theorem ggX1_writeBlock_X2_expectedX : GoodIn wsX1_writeBlock wsX2_expectedX := goodIn_r _ [25, 26, 27, 28, 29, 50, 51, 52, 53, 54, 55, 56, 57, 58, 59, 60, 61, 62, 63] (by decide +kernel) (by decide +kernel)
set_option maxRecDepth 20000 in
theorem gX1_writeBlock_X2_expectedX : GoodIn wsX1_writeBlock (wsV RX1 83 RX2 yX2_expectedX wsX2_expectedX) := goodIn_app (goodIn_of _ (by decide +kernel)) ggX1_writeBlock_X2_expectedX
set_option maxRecDepth 20000 in
theorem ggX1_writeBlock_X1_writeSigned : GoodIn wsX1_writeBlock wsX1_writeSigned := goodIn_r _ [33, 34, 28, 35, 15, 16, 17, 8, 18, 19, 20, 64, 65, 66, 67] (by decide +kernel) (by decide +kernel)
set_option maxRecDepth 20000 in
theorem gX1_writeBlock_X1_writeSigned : GoodIn wsX1_writeBlock (wsV RX1 86 RX1 yX1_writeSigned wsX1_writeSigned) := goodIn_app (goodIn_of _ (by decide +kernel)) ggX1_writeBlock_X1_writeSigned
set_option maxRecDepth 20000 in
theorem ggX1_writeBlock_X2_expectedY : GoodIn wsX1_writeBlock wsX2_expectedY := goodIn_r _ [39, 40, 27, 28, 29, 50, 51, 52, 53, 54, 55, 56, 57, 58, 59, 60, 61, 62, 63] (by decide +kernel) (by decide +kernel)
set_option maxRecDepth 20000 in
theorem gX1_writeBlock_X2_expectedY : GoodIn wsX1_writeBlock (wsV RX1 92 RX2 yX2_expectedY wsX2_expectedY) := goodIn_app (goodIn_of _ (by decide +kernel)) ggX1_writeBlock_X2_expectedY
set_option maxRecDepth 20000 in
theorem ggX1_writeBlock_X1_writeLevels : GoodIn wsX1_writeBlock wsX1_writeLevels := goodIn_r _ [44, 45, 46, 47, 8, 48, 49, 15, 16, 17, 18, 19, 20, 11, 12, 13, 14, 34, 28, 35, 64, 65, 66, 67] (by decide +kernel) (by decide +kernel)
set_option maxRecDepth 20000 in
theorem gX1_writeBlock_X1_writeLevels : GoodIn wsX1_writeBlock (wsV RX1 98 RX1 yX1_writeLevels wsX1_writeLevels) := goodIn_app (goodIn_of _ (by decide +kernel)) ggX1_writeBlock_X1_writeLevels
theorem dX1_writeBlock_0 : decode cX1_writeBlock 0 = .ok (.aload_n 1, 1) := by decide +kernel
theorem dX1_writeBlock_1 : decode cX1_writeBlock 1 = .ok (.getfield 73, 3) := by decide +kernel
theorem dX1_writeBlock_4 : decode cX1_writeBlock 4 = .ok (.iload_n 2, 1) := by decide +kernel
theorem dX1_writeBlock_5 : decode cX1_writeBlock 5 = .ok (.iaload, 1) := by decide +kernel
theorem dX1_writeBlock_6 : decode cX1_writeBlock 6 = .ok (.istore_n 3, 1) := by decide +kernel
theorem dX1_writeBlock_7 : decode cX1_writeBlock 7 = .ok (.aload_n 0, 1) := by decide +kernel
theorem dX1_writeBlock_8 : decode cX1_writeBlock 8 = .ok (.iload_n 3, 1) := by decide +kernel
theorem dX1_writeBlock_9 : decode cX1_writeBlock 9 = .ok (.invokevirtual 76, 3) := by decide +kernel
theorem dX1_writeBlock_12 : decode cX1_writeBlock 12 = .ok (.iload_n 3, 1) := by decide +kernel
theorem dX1_writeBlock_13 : decode cX1_writeBlock 13 = .ok (.iconst 1, 1) := by decide +kernel
theorem dX1_writeBlock_14 : decode cX1_writeBlock 14 = .ok (.if_icmp .ne 35, 3) := by decide +kernel
theorem dX1_writeBlock_17 : decode cX1_writeBlock 17 = .ok (.aload_n 0, 1) := by decide +kernel
theorem dX1_writeBlock_18 : decode cX1_writeBlock 18 = .ok (.aload_n 1, 1) := by decide +kernel
theorem dX1_writeBlock_19 : decode cX1_writeBlock 19 = .ok (.getfield 80, 3) := by decide +kernel
theorem dX1_writeBlock_22 : decode cX1_writeBlock 22 = .ok (.iload_n 2, 1) := by decide +kernel
theorem dX1_writeBlock_23 : decode cX1_writeBlock 23 = .ok (.iaload, 1) := by decide +kernel
theorem dX1_writeBlock_24 : decode cX1_writeBlock 24 = .ok (.aload_n 1, 1) := by decide +kernel
theorem dX1_writeBlock_25 : decode cX1_writeBlock 25 = .ok (.iload_n 2, 1) := by decide +kernel
theorem dX1_writeBlock_26 : decode cX1_writeBlock 26 = .ok (.invokevirtual 83, 3) := by decide +kernel
theorem dX1_writeBlock_29 : decode cX1_writeBlock 29 = .ok (.isub, 1) := by decide +kernel
theorem dX1_writeBlock_30 : decode cX1_writeBlock 30 = .ok (.invokevirtual 86, 3) := by decide +kernel
theorem dX1_writeBlock_33 : decode cX1_writeBlock 33 = .ok (.aload_n 0, 1) := by decide +kernel
theorem dX1_writeBlock_34 : decode cX1_writeBlock 34 = .ok (.aload_n 1, 1) := by decide +kernel
theorem dX1_writeBlock_35 : decode cX1_writeBlock 35 = .ok (.getfield 89, 3) := by decide +kernel
theorem dX1_writeBlock_38 : decode cX1_writeBlock 38 = .ok (.iload_n 2, 1) := by decide +kernel
theorem dX1_writeBlock_39 : decode cX1_writeBlock 39 = .ok (.iaload, 1) := by decide +kernel
theorem dX1_writeBlock_40 : decode cX1_writeBlock 40 = .ok (.aload_n 1, 1) := by decide +kernel
theorem dX1_writeBlock_41 : decode cX1_writeBlock 41 = .ok (.iload_n 2, 1) := by decide +kernel
theorem dX1_writeBlock_42 : decode cX1_writeBlock 42 = .ok (.invokevirtual 92, 3) := by decide +kernel
theorem dX1_writeBlock_45 : decode cX1_writeBlock 45 = .ok (.isub, 1) := by decide +kernel
theorem dX1_writeBlock_46 : decode cX1_writeBlock 46 = .ok (.invokevirtual 86, 3) := by decide +kernel
theorem dX1_writeBlock_49 : decode cX1_writeBlock 49 = .ok (.iload_n 3, 1) := by decide +kernel
theorem dX1_writeBlock_50 : decode cX1_writeBlock 50 = .ok (.ifCond .eq 36, 3) := by decide +kernel
theorem dX1_writeBlock_53 : decode cX1_writeBlock 53 = .ok (.iconst 0, 1) := by decide +kernel
theorem dX1_writeBlock_54 : decode cX1_writeBlock 54 = .ok (.istore 4, 2) := by decide +kernel
theorem dX1_writeBlock_56 : decode cX1_writeBlock 56 = .ok (.iload 4, 2) := by decide +kernel
theorem dX1_writeBlock_58 : decode cX1_writeBlock 58 = .ok (.iconst 4, 1) := by decide +kernel
theorem dX1_writeBlock_59 : decode cX1_writeBlock 59 = .ok (.if_icmp .ge 27, 3) := by decide +kernel
theorem dX1_writeBlock_62 : decode cX1_writeBlock 62 = .ok (.aload_n 0, 1) := by decide +kernel
theorem dX1_writeBlock_63 : decode cX1_writeBlock 63 = .ok (.aload_n 1, 1) := by decide +kernel
theorem dX1_writeBlock_64 : decode cX1_writeBlock 64 = .ok (.getfield 95, 3) := by decide +kernel
theorem dX1_writeBlock_67 : decode cX1_writeBlock 67 = .ok (.iload_n 2, 1) := by decide +kernel
theorem dX1_writeBlock_68 : decode cX1_writeBlock 68 = .ok (.bipush 64, 2) := by decide +kernel
theorem dX1_writeBlock_70 : decode cX1_writeBlock 70 = .ok (.imul, 1) := by decide +kernel
theorem dX1_writeBlock_71 : decode cX1_writeBlock 71 = .ok (.iload 4, 2) := by decide +kernel
theorem dX1_writeBlock_73 : decode cX1_writeBlock 73 = .ok (.bipush 16, 2) := by decide +kernel
theorem dX1_writeBlock_75 : decode cX1_writeBlock 75 = .ok (.imul, 1) := by decide +kernel
theorem dX1_writeBlock_76 : decode cX1_writeBlock 76 = .ok (.iadd, 1) := by decide +kernel
theorem dX1_writeBlock_77 : decode cX1_writeBlock 77 = .ok (.invokevirtual 98, 3) := by decide +kernel
theorem dX1_writeBlock_80 : decode cX1_writeBlock 80 = .ok (.iinc 4 1, 3) := by decide +kernel
theorem dX1_writeBlock_83 : decode cX1_writeBlock 83 = .ok (.goto (-27), 3) := by decide +kernel
theorem dX1_writeBlock_86 : decode cX1_writeBlock 86 = .ok (.return_, 1) := by decide +kernel
set_option maxRecDepth 20000 in
theorem ggX1_writeKind_X1_putOnes : GoodIn wsX1_writeKind wsX1_putOnes := goodIn_r _ [6, 7, 8, 9, 5, 10, 11, 12, 13, 14, 15, 16] (by decide +kernel) (by decide +kernel)
set_option maxRecDepth 20000 in
theorem gX1_writeKind_X1_putOnes : GoodIn wsX1_writeKind (wsV RX1 101 RX1 yX1_putOnes wsX1_putOnes) := goodIn_app (goodIn_of _ (by decide +kernel)) ggX1_writeKind_X1_putOnes
set_option maxRecDepth 20000 in
theorem ggX1_writeKind_X1_put : GoodIn wsX1_writeKind wsX1_put := goodIn_r _ [10, 11, 12, 13, 14, 15, 16] (by decide +kernel) (by decide +kernel)
set_option maxRecDepth 20000 in
theorem gX1_writeKind_X1_put : GoodIn wsX1_writeKind (wsV RX1 59 RX1 yX1_put wsX1_put) := goodIn_app (goodIn_of _ (by decide +kernel)) ggX1_writeKind_X1_put
theorem dX1_writeKind_0 : decode cX1_writeKind 0 = .ok (.iconst 0, 1) := by decide +kernel
theorem dX1_writeKind_1 : decode cX1_writeKind 1 = .ok (.istore_n 2, 1) := by decide +kernel
theorem dX1_writeKind_2 : decode cX1_writeKind 2 = .ok (.iload_n 2, 1) := by decide +kernel
theorem dX1_writeKind_3 : decode cX1_writeKind 3 = .ok (.iconst 4, 1) := by decide +kernel
theorem dX1_writeKind_4 : decode cX1_writeKind 4 = .ok (.if_icmp .ge 19, 3) := by decide +kernel
theorem dX1_writeKind_7 : decode cX1_writeKind 7 = .ok (.aload_n 0, 1) := by decide +kernel
theorem dX1_writeKind_8 : decode cX1_writeKind 8 = .ok (.getfield 15, 3) := by decide +kernel
theorem dX1_writeKind_11 : decode cX1_writeKind 11 = .ok (.iload_n 2, 1) := by decide +kernel
theorem dX1_writeKind_12 : decode cX1_writeKind 12 = .ok (.iaload, 1) := by decide +kernel
theorem dX1_writeKind_13 : decode cX1_writeKind 13 = .ok (.iload_n 1, 1) := by decide +kernel
theorem dX1_writeKind_14 : decode cX1_writeKind 14 = .ok (.if_icmp .eq 9, 3) := by decide +kernel
theorem dX1_writeKind_17 : decode cX1_writeKind 17 = .ok (.iinc 2 1, 3) := by decide +kernel
theorem dX1_writeKind_20 : decode cX1_writeKind 20 = .ok (.goto (-18), 3) := by decide +kernel
theorem dX1_writeKind_23 : decode cX1_writeKind 23 = .ok (.iload_n 2, 1) := by decide +kernel
theorem dX1_writeKind_24 : decode cX1_writeKind 24 = .ok (.istore_n 3, 1) := by decide +kernel
theorem dX1_writeKind_25 : decode cX1_writeKind 25 = .ok (.iload_n 3, 1) := by decide +kernel
theorem dX1_writeKind_26 : decode cX1_writeKind 26 = .ok (.ifCond .le 23, 3) := by decide +kernel
theorem dX1_writeKind_29 : decode cX1_writeKind 29 = .ok (.aload_n 0, 1) := by decide +kernel
theorem dX1_writeKind_30 : decode cX1_writeKind 30 = .ok (.getfield 15, 3) := by decide +kernel
theorem dX1_writeKind_33 : decode cX1_writeKind 33 = .ok (.iload_n 3, 1) := by decide +kernel
theorem dX1_writeKind_34 : decode cX1_writeKind 34 = .ok (.aload_n 0, 1) := by decide +kernel
theorem dX1_writeKind_35 : decode cX1_writeKind 35 = .ok (.getfield 15, 3) := by decide +kernel
theorem dX1_writeKind_38 : decode cX1_writeKind 38 = .ok (.iload_n 3, 1) := by decide +kernel
theorem dX1_writeKind_39 : decode cX1_writeKind 39 = .ok (.iconst 1, 1) := by decide +kernel
theorem dX1_writeKind_40 : decode cX1_writeKind 40 = .ok (.isub, 1) := by decide +kernel
theorem dX1_writeKind_41 : decode cX1_writeKind 41 = .ok (.iaload, 1) := by decide +kernel
theorem dX1_writeKind_42 : decode cX1_writeKind 42 = .ok (.iastore, 1) := by decide +kernel
theorem dX1_writeKind_43 : decode cX1_writeKind 43 = .ok (.iinc 3 (-1), 3) := by decide +kernel
theorem dX1_writeKind_46 : decode cX1_writeKind 46 = .ok (.goto (-21), 3) := by decide +kernel
theorem dX1_writeKind_49 : decode cX1_writeKind 49 = .ok (.aload_n 0, 1) := by decide +kernel
theorem dX1_writeKind_50 : decode cX1_writeKind 50 = .ok (.getfield 15, 3) := by decide +kernel
theorem dX1_writeKind_53 : decode cX1_writeKind 53 = .ok (.iconst 0, 1) := by decide +kernel
theorem dX1_writeKind_54 : decode cX1_writeKind 54 = .ok (.iload_n 1, 1) := by decide +kernel
theorem dX1_writeKind_55 : decode cX1_writeKind 55 = .ok (.iastore, 1) := by decide +kernel
theorem dX1_writeKind_56 : decode cX1_writeKind 56 = .ok (.iload_n 2, 1) := by decide +kernel
theorem dX1_writeKind_57 : decode cX1_writeKind 57 = .ok (.iconst 4, 1) := by decide +kernel
theorem dX1_writeKind_58 : decode cX1_writeKind 58 = .ok (.if_icmp .ge 11, 3) := by decide +kernel
theorem dX1_writeKind_61 : decode cX1_writeKind 61 = .ok (.aload_n 0, 1) := by decide +kernel
theorem dX1_writeKind_62 : decode cX1_writeKind 62 = .ok (.iload_n 2, 1) := by decide +kernel
theorem dX1_writeKind_63 : decode cX1_writeKind 63 = .ok (.invokevirtual 101, 3) := by decide +kernel
theorem dX1_writeKind_66 : decode cX1_writeKind 66 = .ok (.goto 13, 3) := by decide +kernel
theorem dX1_writeKind_69 : decode cX1_writeKind 69 = .ok (.aload_n 0, 1) := by decide +kernel
theorem dX1_writeKind_70 : decode cX1_writeKind 70 = .ok (.iconst 1, 1) := by decide +kernel
theorem dX1_writeKind_71 : decode cX1_writeKind 71 = .ok (.iload_n 2, 1) := by decide +kernel
theorem dX1_writeKind_72 : decode cX1_writeKind 72 = .ok (.ishl, 1) := by decide +kernel
theorem dX1_writeKind_73 : decode cX1_writeKind 73 = .ok (.iconst 1, 1) := by decide +kernel
theorem dX1_writeKind_74 : decode cX1_writeKind 74 = .ok (.isub, 1) := by decide +kernel
theorem dX1_writeKind_75 : decode cX1_writeKind 75 = .ok (.iload_n 2, 1) := by decide +kernel
theorem dX1_writeKind_76 : decode cX1_writeKind 76 = .ok (.invokevirtual 59, 3) := by decide +kernel
theorem dX1_writeKind_79 : decode cX1_writeKind 79 = .ok (.return_, 1) := by decide +kernel
set_option maxRecDepth 20000 in
theorem ggX1_writeSigned_X5_folded : GoodIn wsX1_writeSigned wsX5_folded := goodIn_r _ [3] (by decide +kernel) (by decide +kernel)
set_option maxRecDepth 20000 in
theorem gX1_writeSigned_X5_folded_n104 : GoodIn wsX1_writeSigned (wsX5_folded) := ggX1_writeSigned_X5_folded
set_option maxRecDepth 20000 in
theorem ggX1_writeSigned_X1_put : GoodIn wsX1_writeSigned wsX1_put := goodIn_r _ [8, 9, 10, 11, 12, 13, 14] (by decide +kernel) (by decide +kernel)
set_option maxRecDepth 20000 in
theorem gX1_writeSigned_X1_put : GoodIn wsX1_writeSigned (wsV RX1 59 RX1 yX1_put wsX1_put) := goodIn_app (goodIn_of _ (by decide +kernel)) ggX1_writeSigned_X1_put
theorem dX1_writeSigned_0 : decode cX1_writeSigned 0 = .ok (.iload_n 1, 1) := by decide +kernel
theorem dX1_writeSigned_1 : decode cX1_writeSigned 1 = .ok (.invokestatic 104, 3) := by decide +kernel
theorem dX1_writeSigned_4 : decode cX1_writeSigned 4 = .ok (.iconst 1, 1) := by decide +kernel
theorem dX1_writeSigned_5 : decode cX1_writeSigned 5 = .ok (.iadd, 1) := by decide +kernel
theorem dX1_writeSigned_6 : decode cX1_writeSigned 6 = .ok (.istore_n 2, 1) := by decide +kernel
theorem dX1_writeSigned_7 : decode cX1_writeSigned 7 = .ok (.iconst 1, 1) := by decide +kernel
theorem dX1_writeSigned_8 : decode cX1_writeSigned 8 = .ok (.istore_n 3, 1) := by decide +kernel
theorem dX1_writeSigned_9 : decode cX1_writeSigned 9 = .ok (.iload_n 3, 1) := by decide +kernel
theorem dX1_writeSigned_10 : decode cX1_writeSigned 10 = .ok (.bipush 16, 2) := by decide +kernel
theorem dX1_writeSigned_12 : decode cX1_writeSigned 12 = .ok (.if_icmp .ge 15, 3) := by decide +kernel
theorem dX1_writeSigned_15 : decode cX1_writeSigned 15 = .ok (.iload_n 2, 1) := by decide +kernel
theorem dX1_writeSigned_16 : decode cX1_writeSigned 16 = .ok (.iload_n 3, 1) := by decide +kernel
theorem dX1_writeSigned_17 : decode cX1_writeSigned 17 = .ok (.ishr, 1) := by decide +kernel
theorem dX1_writeSigned_18 : decode cX1_writeSigned 18 = .ok (.ifCond .le 9, 3) := by decide +kernel
theorem dX1_writeSigned_21 : decode cX1_writeSigned 21 = .ok (.iinc 3 1, 3) := by decide +kernel
theorem dX1_writeSigned_24 : decode cX1_writeSigned 24 = .ok (.goto (-15), 3) := by decide +kernel
theorem dX1_writeSigned_27 : decode cX1_writeSigned 27 = .ok (.aload_n 0, 1) := by decide +kernel
theorem dX1_writeSigned_28 : decode cX1_writeSigned 28 = .ok (.iload_n 2, 1) := by decide +kernel
theorem dX1_writeSigned_29 : decode cX1_writeSigned 29 = .ok (.iconst 2, 1) := by decide +kernel
theorem dX1_writeSigned_30 : decode cX1_writeSigned 30 = .ok (.iload_n 3, 1) := by decide +kernel
theorem dX1_writeSigned_31 : decode cX1_writeSigned 31 = .ok (.imul, 1) := by decide +kernel
theorem dX1_writeSigned_32 : decode cX1_writeSigned 32 = .ok (.iconst 1, 1) := by decide +kernel
theorem dX1_writeSigned_33 : decode cX1_writeSigned 33 = .ok (.isub, 1) := by decide +kernel
theorem dX1_writeSigned_34 : decode cX1_writeSigned 34 = .ok (.invokevirtual 59, 3) := by decide +kernel
theorem dX1_writeSigned_37 : decode cX1_writeSigned 37 = .ok (.return_, 1) := by decide +kernel
set_option maxRecDepth 20000 in
theorem ggX1_writeLevels_X1_writeNumber : GoodIn wsX1_writeLevels wsX1_writeNumber := goodIn_r _ [5, 6, 7, 8, 9, 4, 10, 11, 12, 13, 14, 15, 16, 20, 21, 22, 23] (by decide +kernel) (by decide +kernel)
set_option maxRecDepth 20000 in
theorem gX1_writeLevels_X1_writeNumber : GoodIn wsX1_writeLevels (wsV RX1 107 RX1 yX1_writeNumber wsX1_writeNumber) := goodIn_app (goodIn_of _ (by decide +kernel)) ggX1_writeLevels_X1_writeNumber
set_option maxRecDepth 20000 in
theorem ggX1_writeLevels_X5_folded : GoodIn wsX1_writeLevels wsX5_folded := goodIn_r _ [19] (by decide +kernel) (by decide +kernel)
set_option maxRecDepth 20000 in
theorem gX1_writeLevels_X5_folded_n104 : GoodIn wsX1_writeLevels (wsX5_folded) := ggX1_writeLevels_X5_folded
theorem dX1_writeLevels_0 : decode cX1_writeLevels 0 = .ok (.bipush 16, 2) := by decide +kernel
theorem dX1_writeLevels_2 : decode cX1_writeLevels 2 = .ok (.istore_n 3, 1) := by decide +kernel
theorem dX1_writeLevels_3 : decode cX1_writeLevels 3 = .ok (.iload_n 3, 1) := by decide +kernel
theorem dX1_writeLevels_4 : decode cX1_writeLevels 4 = .ok (.ifCond .le 19, 3) := by decide +kernel
theorem dX1_writeLevels_7 : decode cX1_writeLevels 7 = .ok (.aload_n 1, 1) := by decide +kernel
theorem dX1_writeLevels_8 : decode cX1_writeLevels 8 = .ok (.iload_n 2, 1) := by decide +kernel
theorem dX1_writeLevels_9 : decode cX1_writeLevels 9 = .ok (.iload_n 3, 1) := by decide +kernel
theorem dX1_writeLevels_10 : decode cX1_writeLevels 10 = .ok (.iadd, 1) := by decide +kernel
theorem dX1_writeLevels_11 : decode cX1_writeLevels 11 = .ok (.iconst 1, 1) := by decide +kernel
theorem dX1_writeLevels_12 : decode cX1_writeLevels 12 = .ok (.isub, 1) := by decide +kernel
theorem dX1_writeLevels_13 : decode cX1_writeLevels 13 = .ok (.iaload, 1) := by decide +kernel
theorem dX1_writeLevels_14 : decode cX1_writeLevels 14 = .ok (.ifCond .ne 9, 3) := by decide +kernel
theorem dX1_writeLevels_17 : decode cX1_writeLevels 17 = .ok (.iinc 3 (-1), 3) := by decide +kernel
theorem dX1_writeLevels_20 : decode cX1_writeLevels 20 = .ok (.goto (-17), 3) := by decide +kernel
theorem dX1_writeLevels_23 : decode cX1_writeLevels 23 = .ok (.aload_n 0, 1) := by decide +kernel
theorem dX1_writeLevels_24 : decode cX1_writeLevels 24 = .ok (.iload_n 3, 1) := by decide +kernel
theorem dX1_writeLevels_25 : decode cX1_writeLevels 25 = .ok (.iconst 0, 1) := by decide +kernel
theorem dX1_writeLevels_26 : decode cX1_writeLevels 26 = .ok (.invokevirtual 107, 3) := by decide +kernel
theorem dX1_writeLevels_29 : decode cX1_writeLevels 29 = .ok (.iconst 0, 1) := by decide +kernel
theorem dX1_writeLevels_30 : decode cX1_writeLevels 30 = .ok (.istore 4, 2) := by decide +kernel
theorem dX1_writeLevels_32 : decode cX1_writeLevels 32 = .ok (.iload 4, 2) := by decide +kernel
theorem dX1_writeLevels_34 : decode cX1_writeLevels 34 = .ok (.iload_n 3, 1) := by decide +kernel
theorem dX1_writeLevels_35 : decode cX1_writeLevels 35 = .ok (.if_icmp .ge 36, 3) := by decide +kernel
theorem dX1_writeLevels_38 : decode cX1_writeLevels 38 = .ok (.iload 4, 2) := by decide +kernel
theorem dX1_writeLevels_40 : decode cX1_writeLevels 40 = .ok (.ifCond .ne 7, 3) := by decide +kernel
theorem dX1_writeLevels_43 : decode cX1_writeLevels 43 = .ok (.iconst 2, 1) := by decide +kernel
theorem dX1_writeLevels_44 : decode cX1_writeLevels 44 = .ok (.goto 4, 3) := by decide +kernel
theorem dX1_writeLevels_47 : decode cX1_writeLevels 47 = .ok (.iconst 1, 1) := by decide +kernel
theorem dX1_writeLevels_48 : decode cX1_writeLevels 48 = .ok (.istore 5, 2) := by decide +kernel
theorem dX1_writeLevels_50 : decode cX1_writeLevels 50 = .ok (.aload_n 0, 1) := by decide +kernel
theorem dX1_writeLevels_51 : decode cX1_writeLevels 51 = .ok (.aload_n 1, 1) := by decide +kernel
theorem dX1_writeLevels_52 : decode cX1_writeLevels 52 = .ok (.iload_n 2, 1) := by decide +kernel
theorem dX1_writeLevels_53 : decode cX1_writeLevels 53 = .ok (.iload 4, 2) := by decide +kernel
theorem dX1_writeLevels_55 : decode cX1_writeLevels 55 = .ok (.iadd, 1) := by decide +kernel
theorem dX1_writeLevels_56 : decode cX1_writeLevels 56 = .ok (.iaload, 1) := by decide +kernel
theorem dX1_writeLevels_57 : decode cX1_writeLevels 57 = .ok (.invokestatic 104, 3) := by decide +kernel
theorem dX1_writeLevels_60 : decode cX1_writeLevels 60 = .ok (.iload 5, 2) := by decide +kernel
theorem dX1_writeLevels_62 : decode cX1_writeLevels 62 = .ok (.invokevirtual 107, 3) := by decide +kernel
theorem dX1_writeLevels_65 : decode cX1_writeLevels 65 = .ok (.iinc 4 1, 3) := by decide +kernel
theorem dX1_writeLevels_68 : decode cX1_writeLevels 68 = .ok (.goto (-36), 3) := by decide +kernel
theorem dX1_writeLevels_71 : decode cX1_writeLevels 71 = .ok (.return_, 1) := by decide +kernel
set_option maxRecDepth 20000 in
theorem ggX1_writeNumber_X1_put : GoodIn wsX1_writeNumber wsX1_put := goodIn_r _ [6, 7, 8, 13, 14, 15, 16] (by decide +kernel) (by decide +kernel)
set_option maxRecDepth 20000 in
theorem gX1_writeNumber_X1_put : GoodIn wsX1_writeNumber (wsV RX1 59 RX1 yX1_put wsX1_put) := goodIn_app (goodIn_of _ (by decide +kernel)) ggX1_writeNumber_X1_put
set_option maxRecDepth 20000 in
theorem ggX1_writeNumber_X1_putOnes : GoodIn wsX1_writeNumber wsX1_putOnes := goodIn_r _ [12, 2, 3, 4, 5, 6, 7, 8, 13, 14, 15, 16] (by decide +kernel) (by decide +kernel)
set_option maxRecDepth 20000 in
theorem gX1_writeNumber_X1_putOnes : GoodIn wsX1_writeNumber (wsV RX1 101 RX1 yX1_putOnes wsX1_putOnes) := goodIn_app (goodIn_of _ (by decide +kernel)) ggX1_writeNumber_X1_putOnes
theorem dX1_writeNumber_0 : decode cX1_writeNumber 0 = .ok (.iconst 0, 1) := by decide +kernel
theorem dX1_writeNumber_1 : decode cX1_writeNumber 1 = .ok (.istore_n 3, 1) := by decide +kernel
theorem dX1_writeNumber_2 : decode cX1_writeNumber 2 = .ok (.iload_n 3, 1) := by decide +kernel
theorem dX1_writeNumber_3 : decode cX1_writeNumber 3 = .ok (.bipush 12, 2) := by decide +kernel
theorem dX1_writeNumber_5 : decode cX1_writeNumber 5 = .ok (.if_icmp .ge 21, 3) := by decide +kernel
theorem dX1_writeNumber_8 : decode cX1_writeNumber 8 = .ok (.iconst 4, 1) := by decide +kernel
theorem dX1_writeNumber_9 : decode cX1_writeNumber 9 = .ok (.iload_n 3, 1) := by decide +kernel
theorem dX1_writeNumber_10 : decode cX1_writeNumber 10 = .ok (.ishl, 1) := by decide +kernel
theorem dX1_writeNumber_11 : decode cX1_writeNumber 11 = .ok (.aload_n 0, 1) := by decide +kernel
theorem dX1_writeNumber_12 : decode cX1_writeNumber 12 = .ok (.getfield 18, 3) := by decide +kernel
theorem dX1_writeNumber_15 : decode cX1_writeNumber 15 = .ok (.iload_n 2, 1) := by decide +kernel
theorem dX1_writeNumber_16 : decode cX1_writeNumber 16 = .ok (.iaload, 1) := by decide +kernel
theorem dX1_writeNumber_17 : decode cX1_writeNumber 17 = .ok (.if_icmp .ge 9, 3) := by decide +kernel
theorem dX1_writeNumber_20 : decode cX1_writeNumber 20 = .ok (.iinc 3 1, 3) := by decide +kernel
theorem dX1_writeNumber_23 : decode cX1_writeNumber 23 = .ok (.goto (-21), 3) := by decide +kernel
theorem dX1_writeNumber_26 : decode cX1_writeNumber 26 = .ok (.iload_n 1, 1) := by decide +kernel
theorem dX1_writeNumber_27 : decode cX1_writeNumber 27 = .ok (.iload_n 3, 1) := by decide +kernel
theorem dX1_writeNumber_28 : decode cX1_writeNumber 28 = .ok (.ishr, 1) := by decide +kernel
theorem dX1_writeNumber_29 : decode cX1_writeNumber 29 = .ok (.bipush 12, 2) := by decide +kernel
theorem dX1_writeNumber_31 : decode cX1_writeNumber 31 = .ok (.if_icmp .lt 22, 3) := by decide +kernel
theorem dX1_writeNumber_34 : decode cX1_writeNumber 34 = .ok (.aload_n 0, 1) := by decide +kernel
theorem dX1_writeNumber_35 : decode cX1_writeNumber 35 = .ok (.sipush 4095, 3) := by decide +kernel
theorem dX1_writeNumber_38 : decode cX1_writeNumber 38 = .ok (.bipush 12, 2) := by decide +kernel
theorem dX1_writeNumber_40 : decode cX1_writeNumber 40 = .ok (.invokevirtual 59, 3) := by decide +kernel
theorem dX1_writeNumber_43 : decode cX1_writeNumber 43 = .ok (.aload_n 0, 1) := by decide +kernel
theorem dX1_writeNumber_44 : decode cX1_writeNumber 44 = .ok (.iload_n 1, 1) := by decide +kernel
theorem dX1_writeNumber_45 : decode cX1_writeNumber 45 = .ok (.bipush 12, 2) := by decide +kernel
theorem dX1_writeNumber_47 : decode cX1_writeNumber 47 = .ok (.invokevirtual 59, 3) := by decide +kernel
theorem dX1_writeNumber_50 : decode cX1_writeNumber 50 = .ok (.goto 22, 3) := by decide +kernel
theorem dX1_writeNumber_53 : decode cX1_writeNumber 53 = .ok (.aload_n 0, 1) := by decide +kernel
theorem dX1_writeNumber_54 : decode cX1_writeNumber 54 = .ok (.iload_n 1, 1) := by decide +kernel
theorem dX1_writeNumber_55 : decode cX1_writeNumber 55 = .ok (.iload_n 3, 1) := by decide +kernel
theorem dX1_writeNumber_56 : decode cX1_writeNumber 56 = .ok (.ishr, 1) := by decide +kernel
theorem dX1_writeNumber_57 : decode cX1_writeNumber 57 = .ok (.invokevirtual 101, 3) := by decide +kernel
theorem dX1_writeNumber_60 : decode cX1_writeNumber 60 = .ok (.aload_n 0, 1) := by decide +kernel
theorem dX1_writeNumber_61 : decode cX1_writeNumber 61 = .ok (.iload_n 1, 1) := by decide +kernel
theorem dX1_writeNumber_62 : decode cX1_writeNumber 62 = .ok (.iconst 1, 1) := by decide +kernel
theorem dX1_writeNumber_63 : decode cX1_writeNumber 63 = .ok (.iload_n 3, 1) := by decide +kernel
theorem dX1_writeNumber_64 : decode cX1_writeNumber 64 = .ok (.ishl, 1) := by decide +kernel
theorem dX1_writeNumber_65 : decode cX1_writeNumber 65 = .ok (.iconst 1, 1) := by decide +kernel
theorem dX1_writeNumber_66 : decode cX1_writeNumber 66 = .ok (.isub, 1) := by decide +kernel
theorem dX1_writeNumber_67 : decode cX1_writeNumber 67 = .ok (.iand, 1) := by decide +kernel
theorem dX1_writeNumber_68 : decode cX1_writeNumber 68 = .ok (.iload_n 3, 1) := by decide +kernel
theorem dX1_writeNumber_69 : decode cX1_writeNumber 69 = .ok (.invokevirtual 59, 3) := by decide +kernel
theorem dX1_writeNumber_72 : decode cX1_writeNumber 72 = .ok (.aload_n 0, 1) := by decide +kernel
theorem dX1_writeNumber_73 : decode cX1_writeNumber 73 = .ok (.getfield 18, 3) := by decide +kernel
theorem dX1_writeNumber_76 : decode cX1_writeNumber 76 = .ok (.iload_n 2, 1) := by decide +kernel
theorem dX1_writeNumber_77 : decode cX1_writeNumber 77 = .ok (.dup2, 1) := by decide +kernel
theorem dX1_writeNumber_78 : decode cX1_writeNumber 78 = .ok (.iaload, 1) := by decide +kernel
theorem dX1_writeNumber_79 : decode cX1_writeNumber 79 = .ok (.iload_n 1, 1) := by decide +kernel
theorem dX1_writeNumber_80 : decode cX1_writeNumber 80 = .ok (.aload_n 0, 1) := by decide +kernel
theorem dX1_writeNumber_81 : decode cX1_writeNumber 81 = .ok (.getfield 18, 3) := by decide +kernel
theorem dX1_writeNumber_84 : decode cX1_writeNumber 84 = .ok (.iload_n 2, 1) := by decide +kernel
theorem dX1_writeNumber_85 : decode cX1_writeNumber 85 = .ok (.iaload, 1) := by decide +kernel
theorem dX1_writeNumber_86 : decode cX1_writeNumber 86 = .ok (.iconst 4, 1) := by decide +kernel
theorem dX1_writeNumber_87 : decode cX1_writeNumber 87 = .ok (.idiv, 1) := by decide +kernel
theorem dX1_writeNumber_88 : decode cX1_writeNumber 88 = .ok (.isub, 1) := by decide +kernel
theorem dX1_writeNumber_89 : decode cX1_writeNumber 89 = .ok (.iadd, 1) := by decide +kernel
theorem dX1_writeNumber_90 : decode cX1_writeNumber 90 = .ok (.iastore, 1) := by decide +kernel
theorem dX1_writeNumber_91 : decode cX1_writeNumber 91 = .ok (.return_, 1) := by decide +kernel
set_option maxRecDepth 20000 in
theorem ggX1_putOnes_X1_put : GoodIn wsX1_putOnes wsX1_put := goodIn_r _ [5, 6, 7, 8, 9, 10, 11] (by decide +kernel) (by decide +kernel)
set_option maxRecDepth 20000 in
theorem gX1_putOnes_X1_put : GoodIn wsX1_putOnes (wsV RX1 59 RX1 yX1_put wsX1_put) := goodIn_app (goodIn_of _ (by decide +kernel)) ggX1_putOnes_X1_put
theorem dX1_putOnes_0 : decode cX1_putOnes 0 = .ok (.aload_n 0, 1) := by decide +kernel
theorem dX1_putOnes_1 : decode cX1_putOnes 1 = .ok (.iconst 2, 1) := by decide +kernel
theorem dX1_putOnes_2 : decode cX1_putOnes 2 = .ok (.iload_n 1, 1) := by decide +kernel
theorem dX1_putOnes_3 : decode cX1_putOnes 3 = .ok (.ishl, 1) := by decide +kernel
theorem dX1_putOnes_4 : decode cX1_putOnes 4 = .ok (.iconst 2, 1) := by decide +kernel
theorem dX1_putOnes_5 : decode cX1_putOnes 5 = .ok (.isub, 1) := by decide +kernel
theorem dX1_putOnes_6 : decode cX1_putOnes 6 = .ok (.iload_n 1, 1) := by decide +kernel
theorem dX1_putOnes_7 : decode cX1_putOnes 7 = .ok (.iconst 1, 1) := by decide +kernel
theorem dX1_putOnes_8 : decode cX1_putOnes 8 = .ok (.iadd, 1) := by decide +kernel
theorem dX1_putOnes_9 : decode cX1_putOnes 9 = .ok (.invokevirtual 59, 3) := by decide +kernel
theorem dX1_putOnes_12 : decode cX1_putOnes 12 = .ok (.return_, 1) := by decide +kernel
theorem dX1_put_0 : decode cX1_put 0 = .ok (.iload_n 2, 1) := by decide +kernel
theorem dX1_put_1 : decode cX1_put 1 = .ok (.iconst 1, 1) := by decide +kernel
theorem dX1_put_2 : decode cX1_put 2 = .ok (.isub, 1) := by decide +kernel
theorem dX1_put_3 : decode cX1_put 3 = .ok (.istore_n 3, 1) := by decide +kernel
theorem dX1_put_4 : decode cX1_put 4 = .ok (.iload_n 3, 1) := by decide +kernel
theorem dX1_put_5 : decode cX1_put 5 = .ok (.ifCond .lt 64, 3) := by decide +kernel
theorem dX1_put_8 : decode cX1_put 8 = .ok (.aload_n 0, 1) := by decide +kernel
theorem dX1_put_9 : decode cX1_put 9 = .ok (.getfield 21, 3) := by decide +kernel
theorem dX1_put_12 : decode cX1_put 12 = .ok (.bipush 8, 2) := by decide +kernel
theorem dX1_put_14 : decode cX1_put 14 = .ok (.idiv, 1) := by decide +kernel
theorem dX1_put_15 : decode cX1_put 15 = .ok (.istore 4, 2) := by decide +kernel
theorem dX1_put_17 : decode cX1_put 17 = .ok (.iload 4, 2) := by decide +kernel
theorem dX1_put_19 : decode cX1_put 19 = .ok (.aload_n 0, 1) := by decide +kernel
theorem dX1_put_20 : decode cX1_put 20 = .ok (.getfield 11, 3) := by decide +kernel
theorem dX1_put_23 : decode cX1_put 23 = .ok (.arraylength, 1) := by decide +kernel
theorem dX1_put_24 : decode cX1_put 24 = .ok (.if_icmp .ge 29, 3) := by decide +kernel
theorem dX1_put_27 : decode cX1_put 27 = .ok (.aload_n 0, 1) := by decide +kernel
theorem dX1_put_28 : decode cX1_put 28 = .ok (.getfield 11, 3) := by decide +kernel
theorem dX1_put_31 : decode cX1_put 31 = .ok (.iload 4, 2) := by decide +kernel
theorem dX1_put_33 : decode cX1_put 33 = .ok (.dup2, 1) := by decide +kernel
theorem dX1_put_34 : decode cX1_put 34 = .ok (.iaload, 1) := by decide +kernel
theorem dX1_put_35 : decode cX1_put 35 = .ok (.iload_n 1, 1) := by decide +kernel
theorem dX1_put_36 : decode cX1_put 36 = .ok (.iload_n 3, 1) := by decide +kernel
theorem dX1_put_37 : decode cX1_put 37 = .ok (.ishr, 1) := by decide +kernel
theorem dX1_put_38 : decode cX1_put 38 = .ok (.iconst 1, 1) := by decide +kernel
theorem dX1_put_39 : decode cX1_put 39 = .ok (.iand, 1) := by decide +kernel
theorem dX1_put_40 : decode cX1_put 40 = .ok (.bipush 7, 2) := by decide +kernel
theorem dX1_put_42 : decode cX1_put 42 = .ok (.aload_n 0, 1) := by decide +kernel
theorem dX1_put_43 : decode cX1_put 43 = .ok (.getfield 21, 3) := by decide +kernel
theorem dX1_put_46 : decode cX1_put 46 = .ok (.bipush 8, 2) := by decide +kernel
theorem dX1_put_48 : decode cX1_put 48 = .ok (.irem, 1) := by decide +kernel
theorem dX1_put_49 : decode cX1_put 49 = .ok (.isub, 1) := by decide +kernel
theorem dX1_put_50 : decode cX1_put 50 = .ok (.ishl, 1) := by decide +kernel
theorem dX1_put_51 : decode cX1_put 51 = .ok (.ior, 1) := by decide +kernel
theorem dX1_put_52 : decode cX1_put 52 = .ok (.iastore, 1) := by decide +kernel
theorem dX1_put_53 : decode cX1_put 53 = .ok (.aload_n 0, 1) := by decide +kernel
theorem dX1_put_54 : decode cX1_put 54 = .ok (.dup, 1) := by decide +kernel
theorem dX1_put_55 : decode cX1_put 55 = .ok (.getfield 21, 3) := by decide +kernel
theorem dX1_put_58 : decode cX1_put 58 = .ok (.iconst 1, 1) := by decide +kernel
theorem dX1_put_59 : decode cX1_put 59 = .ok (.iadd, 1) := by decide +kernel
theorem dX1_put_60 : decode cX1_put 60 = .ok (.putfield 21, 3) := by decide +kernel
theorem dX1_put_63 : decode cX1_put 63 = .ok (.iinc 3 (-1), 3) := by decide +kernel
theorem dX1_put_66 : decode cX1_put 66 = .ok (.goto (-62), 3) := by decide +kernel
theorem dX1_put_69 : decode cX1_put 69 = .ok (.return_, 1) := by decide +kernel
theorem dX2_init_0 : decode cX2_init 0 = .ok (.aload_n 0, 1) := by decide +kernel
theorem dX2_init_1 : decode cX2_init 1 = .ok (.invokespecial 3, 3) := by decide +kernel
theorem dX2_init_4 : decode cX2_init 4 = .ok (.aload_n 0, 1) := by decide +kernel
theorem dX2_init_5 : decode cX2_init 5 = .ok (.bipush 12, 2) := by decide +kernel
theorem dX2_init_7 : decode cX2_init 7 = .ok (.newarray .int, 2) := by decide +kernel
theorem dX2_init_9 : decode cX2_init 9 = .ok (.putfield 9, 3) := by decide +kernel
theorem dX2_init_12 : decode cX2_init 12 = .ok (.aload_n 0, 1) := by decide +kernel
theorem dX2_init_13 : decode cX2_init 13 = .ok (.bipush 12, 2) := by decide +kernel
theorem dX2_init_15 : decode cX2_init 15 = .ok (.newarray .int, 2) := by decide +kernel
theorem dX2_init_17 : decode cX2_init 17 = .ok (.putfield 15, 3) := by decide +kernel
theorem dX2_init_20 : decode cX2_init 20 = .ok (.aload_n 0, 1) := by decide +kernel
theorem dX2_init_21 : decode cX2_init 21 = .ok (.bipush 12, 2) := by decide +kernel
theorem dX2_init_23 : decode cX2_init 23 = .ok (.newarray .int, 2) := by decide +kernel
theorem dX2_init_25 : decode cX2_init 25 = .ok (.putfield 18, 3) := by decide +kernel
theorem dX2_init_28 : decode cX2_init 28 = .ok (.aload_n 0, 1) := by decide +kernel
theorem dX2_init_29 : decode cX2_init 29 = .ok (.bipush 12, 2) := by decide +kernel
theorem dX2_init_31 : decode cX2_init 31 = .ok (.newarray .int, 2) := by decide +kernel
theorem dX2_init_33 : decode cX2_init 33 = .ok (.putfield 21, 3) := by decide +kernel
theorem dX2_init_36 : decode cX2_init 36 = .ok (.aload_n 0, 1) := by decide +kernel
theorem dX2_init_37 : decode cX2_init 37 = .ok (.sipush 768, 3) := by decide +kernel
theorem dX2_init_40 : decode cX2_init 40 = .ok (.newarray .int, 2) := by decide +kernel
theorem dX2_init_42 : decode cX2_init 42 = .ok (.putfield 24, 3) := by decide +kernel
theorem dX2_init_45 : decode cX2_init 45 = .ok (.aload_n 0, 1) := by decide +kernel
theorem dX2_init_46 : decode cX2_init 46 = .ok (.sipush 768, 3) := by decide +kernel
theorem dX2_init_49 : decode cX2_init 49 = .ok (.newarray .int, 2) := by decide +kernel
theorem dX2_init_51 : decode cX2_init 51 = .ok (.putfield 27, 3) := by decide +kernel
theorem dX2_init_54 : decode cX2_init 54 = .ok (.aload_n 0, 1) := by decide +kernel
theorem dX2_init_55 : decode cX2_init 55 = .ok (.iconst 3, 1) := by decide +kernel
theorem dX2_init_56 : decode cX2_init 56 = .ok (.newarray .int, 2) := by decide +kernel
theorem dX2_init_58 : decode cX2_init 58 = .ok (.putfield 30, 3) := by decide +kernel
theorem dX2_init_61 : decode cX2_init 61 = .ok (.aload_n 0, 1) := by decide +kernel
theorem dX2_init_62 : decode cX2_init 62 = .ok (.iconst 3, 1) := by decide +kernel
theorem dX2_init_63 : decode cX2_init 63 = .ok (.newarray .boolean, 2) := by decide +kernel
theorem dX2_init_65 : decode cX2_init 65 = .ok (.putfield 33, 3) := by decide +kernel
theorem dX2_init_68 : decode cX2_init 68 = .ok (.aload_n 0, 1) := by decide +kernel
theorem dX2_init_69 : decode cX2_init 69 = .ok (.iconst 0, 1) := by decide +kernel
theorem dX2_init_70 : decode cX2_init 70 = .ok (.newarray .int, 2) := by decide +kernel
theorem dX2_init_72 : decode cX2_init 72 = .ok (.putfield 37, 3) := by decide +kernel
theorem dX2_init_75 : decode cX2_init 75 = .ok (.aload_n 0, 1) := by decide +kernel
theorem dX2_init_76 : decode cX2_init 76 = .ok (.iconst 0, 1) := by decide +kernel
theorem dX2_init_77 : decode cX2_init 77 = .ok (.putfield 40, 3) := by decide +kernel
theorem dX2_init_80 : decode cX2_init 80 = .ok (.aload_n 0, 1) := by decide +kernel
theorem dX2_init_81 : decode cX2_init 81 = .ok (.iconst 1, 1) := by decide +kernel
theorem dX2_init_82 : decode cX2_init 82 = .ok (.putfield 44, 3) := by decide +kernel
theorem dX2_init_85 : decode cX2_init 85 = .ok (.aload_n 0, 1) := by decide +kernel
theorem dX2_init_86 : decode cX2_init 86 = .ok (.iconst 0, 1) := by decide +kernel
theorem dX2_init_87 : decode cX2_init 87 = .ok (.putfield 47, 3) := by decide +kernel
theorem dX2_init_90 : decode cX2_init 90 = .ok (.aload_n 0, 1) := by decide +kernel
theorem dX2_init_91 : decode cX2_init 91 = .ok (.iconst 1, 1) := by decide +kernel
theorem dX2_init_92 : decode cX2_init 92 = .ok (.putfield 50, 3) := by decide +kernel
theorem dX2_init_95 : decode cX2_init 95 = .ok (.aload_n 0, 1) := by decide +kernel
theorem dX2_init_96 : decode cX2_init 96 = .ok (.iconst 1, 1) := by decide +kernel
theorem dX2_init_97 : decode cX2_init 97 = .ok (.putfield 54, 3) := by decide +kernel
theorem dX2_init_100 : decode cX2_init 100 = .ok (.return_, 1) := by decide +kernel
theorem dX2_bytesIn_0 : decode cX2_bytesIn 0 = .ok (.aload_n 0, 1) := by decide +kernel
theorem dX2_bytesIn_1 : decode cX2_bytesIn 1 = .ok (.getfield 30, 3) := by decide +kernel
theorem dX2_bytesIn_4 : decode cX2_bytesIn 4 = .ok (.iload_n 1, 1) := by decide +kernel
theorem dX2_bytesIn_5 : decode cX2_bytesIn 5 = .ok (.iaload, 1) := by decide +kernel
theorem dX2_bytesIn_6 : decode cX2_bytesIn 6 = .ok (.bipush 7, 2) := by decide +kernel
theorem dX2_bytesIn_8 : decode cX2_bytesIn 8 = .ok (.iadd, 1) := by decide +kernel
theorem dX2_bytesIn_9 : decode cX2_bytesIn 9 = .ok (.bipush 8, 2) := by decide +kernel
theorem dX2_bytesIn_11 : decode cX2_bytesIn 11 = .ok (.idiv, 1) := by decide +kernel
theorem dX2_bytesIn_12 : decode cX2_bytesIn 12 = .ok (.ireturn, 1) := by decide +kernel
set_option maxRecDepth 20000 in
theorem ggX2_firstByteOf_X2_bytesIn : GoodIn wsX2_firstByteOf wsX2_bytesIn := goodIn_r _ [5, 6, 7, 8, 9, 10, 11, 12, 13, 14, 15, 16, 17, 18, 19, 20] (by decide +kernel) (by decide +kernel)
set_option maxRecDepth 20000 in
theorem gX2_firstByteOf_X2_bytesIn : GoodIn wsX2_firstByteOf (wsV RX2 57 RX2 yX2_bytesIn wsX2_bytesIn) := goodIn_app (goodIn_of _ (by decide +kernel)) ggX2_firstByteOf_X2_bytesIn
theorem dX2_firstByteOf_0 : decode cX2_firstByteOf 0 = .ok (.iconst 0, 1) := by decide +kernel
theorem dX2_firstByteOf_1 : decode cX2_firstByteOf 1 = .ok (.istore_n 2, 1) := by decide +kernel
theorem dX2_firstByteOf_2 : decode cX2_firstByteOf 2 = .ok (.iconst 0, 1) := by decide +kernel
theorem dX2_firstByteOf_3 : decode cX2_firstByteOf 3 = .ok (.istore_n 3, 1) := by decide +kernel
theorem dX2_firstByteOf_4 : decode cX2_firstByteOf 4 = .ok (.iload_n 3, 1) := by decide +kernel
theorem dX2_firstByteOf_5 : decode cX2_firstByteOf 5 = .ok (.iload_n 1, 1) := by decide +kernel
theorem dX2_firstByteOf_6 : decode cX2_firstByteOf 6 = .ok (.if_icmp .ge 17, 3) := by decide +kernel
theorem dX2_firstByteOf_9 : decode cX2_firstByteOf 9 = .ok (.iload_n 2, 1) := by decide +kernel
theorem dX2_firstByteOf_10 : decode cX2_firstByteOf 10 = .ok (.aload_n 0, 1) := by decide +kernel
theorem dX2_firstByteOf_11 : decode cX2_firstByteOf 11 = .ok (.iload_n 3, 1) := by decide +kernel
theorem dX2_firstByteOf_12 : decode cX2_firstByteOf 12 = .ok (.invokevirtual 57, 3) := by decide +kernel
theorem dX2_firstByteOf_15 : decode cX2_firstByteOf 15 = .ok (.iadd, 1) := by decide +kernel
theorem dX2_firstByteOf_16 : decode cX2_firstByteOf 16 = .ok (.istore_n 2, 1) := by decide +kernel
theorem dX2_firstByteOf_17 : decode cX2_firstByteOf 17 = .ok (.iinc 3 1, 3) := by decide +kernel
theorem dX2_firstByteOf_20 : decode cX2_firstByteOf 20 = .ok (.goto (-16), 3) := by decide +kernel
theorem dX2_firstByteOf_23 : decode cX2_firstByteOf 23 = .ok (.iload_n 2, 1) := by decide +kernel
theorem dX2_firstByteOf_24 : decode cX2_firstByteOf 24 = .ok (.ireturn, 1) := by decide +kernel
set_option maxRecDepth 20000 in
theorem ggX2_bytesInAll_X2_firstByteOf : GoodIn wsX2_bytesInAll wsX2_firstByteOf := goodIn_r _ [5, 6, 7, 8, 4, 9, 10, 11, 12, 13, 14, 15, 16, 17, 18, 19, 20, 21, 22, 23, 24] (by decide +kernel) (by decide +kernel)
set_option maxRecDepth 20000 in
theorem gX2_bytesInAll_X2_firstByteOf : GoodIn wsX2_bytesInAll (wsV RX2 61 RX2 yX2_firstByteOf wsX2_firstByteOf) := goodIn_app (goodIn_of _ (by decide +kernel)) ggX2_bytesInAll_X2_firstByteOf
theorem dX2_bytesInAll_0 : decode cX2_bytesInAll 0 = .ok (.aload_n 0, 1) := by decide +kernel
theorem dX2_bytesInAll_1 : decode cX2_bytesInAll 1 = .ok (.iconst 3, 1) := by decide +kernel
theorem dX2_bytesInAll_2 : decode cX2_bytesInAll 2 = .ok (.invokevirtual 61, 3) := by decide +kernel
theorem dX2_bytesInAll_5 : decode cX2_bytesInAll 5 = .ok (.ireturn, 1) := by decide +kernel
theorem dX2_levelsNotZero_0 : decode cX2_levelsNotZero 0 = .ok (.iconst 0, 1) := by decide +kernel
theorem dX2_levelsNotZero_1 : decode cX2_levelsNotZero 1 = .ok (.istore_n 2, 1) := by decide +kernel
theorem dX2_levelsNotZero_2 : decode cX2_levelsNotZero 2 = .ok (.iconst 0, 1) := by decide +kernel
theorem dX2_levelsNotZero_3 : decode cX2_levelsNotZero 3 = .ok (.istore_n 3, 1) := by decide +kernel
theorem dX2_levelsNotZero_4 : decode cX2_levelsNotZero 4 = .ok (.iload_n 3, 1) := by decide +kernel
theorem dX2_levelsNotZero_5 : decode cX2_levelsNotZero 5 = .ok (.bipush 64, 2) := by decide +kernel
theorem dX2_levelsNotZero_7 : decode cX2_levelsNotZero 7 = .ok (.if_icmp .ge 31, 3) := by decide +kernel
theorem dX2_levelsNotZero_10 : decode cX2_levelsNotZero 10 = .ok (.iload_n 2, 1) := by decide +kernel
theorem dX2_levelsNotZero_11 : decode cX2_levelsNotZero 11 = .ok (.aload_n 0, 1) := by decide +kernel
theorem dX2_levelsNotZero_12 : decode cX2_levelsNotZero 12 = .ok (.getfield 24, 3) := by decide +kernel
theorem dX2_levelsNotZero_15 : decode cX2_levelsNotZero 15 = .ok (.iload_n 1, 1) := by decide +kernel
theorem dX2_levelsNotZero_16 : decode cX2_levelsNotZero 16 = .ok (.bipush 64, 2) := by decide +kernel
theorem dX2_levelsNotZero_18 : decode cX2_levelsNotZero 18 = .ok (.imul, 1) := by decide +kernel
theorem dX2_levelsNotZero_19 : decode cX2_levelsNotZero 19 = .ok (.iload_n 3, 1) := by decide +kernel
theorem dX2_levelsNotZero_20 : decode cX2_levelsNotZero 20 = .ok (.iadd, 1) := by decide +kernel
theorem dX2_levelsNotZero_21 : decode cX2_levelsNotZero 21 = .ok (.iaload, 1) := by decide +kernel
theorem dX2_levelsNotZero_22 : decode cX2_levelsNotZero 22 = .ok (.ifCond .ne 7, 3) := by decide +kernel
theorem dX2_levelsNotZero_25 : decode cX2_levelsNotZero 25 = .ok (.iconst 0, 1) := by decide +kernel
theorem dX2_levelsNotZero_26 : decode cX2_levelsNotZero 26 = .ok (.goto 4, 3) := by decide +kernel
theorem dX2_levelsNotZero_29 : decode cX2_levelsNotZero 29 = .ok (.iconst 1, 1) := by decide +kernel
theorem dX2_levelsNotZero_30 : decode cX2_levelsNotZero 30 = .ok (.iadd, 1) := by decide +kernel
theorem dX2_levelsNotZero_31 : decode cX2_levelsNotZero 31 = .ok (.istore_n 2, 1) := by decide +kernel
theorem dX2_levelsNotZero_32 : decode cX2_levelsNotZero 32 = .ok (.iinc 3 1, 3) := by decide +kernel
theorem dX2_levelsNotZero_35 : decode cX2_levelsNotZero 35 = .ok (.goto (-31), 3) := by decide +kernel
theorem dX2_levelsNotZero_38 : decode cX2_levelsNotZero 38 = .ok (.iload_n 2, 1) := by decide +kernel
theorem dX2_levelsNotZero_39 : decode cX2_levelsNotZero 39 = .ok (.ireturn, 1) := by decide +kernel
theorem dX2_blocksOf_0 : decode cX2_blocksOf 0 = .ok (.iconst 0, 1) := by decide +kernel
theorem dX2_blocksOf_1 : decode cX2_blocksOf 1 = .ok (.istore_n 2, 1) := by decide +kernel
theorem dX2_blocksOf_2 : decode cX2_blocksOf 2 = .ok (.iconst 0, 1) := by decide +kernel
theorem dX2_blocksOf_3 : decode cX2_blocksOf 3 = .ok (.istore_n 3, 1) := by decide +kernel
theorem dX2_blocksOf_4 : decode cX2_blocksOf 4 = .ok (.iload_n 3, 1) := by decide +kernel
theorem dX2_blocksOf_5 : decode cX2_blocksOf 5 = .ok (.bipush 12, 2) := by decide +kernel
theorem dX2_blocksOf_7 : decode cX2_blocksOf 7 = .ok (.if_icmp .ge 27, 3) := by decide +kernel
theorem dX2_blocksOf_10 : decode cX2_blocksOf 10 = .ok (.iload_n 2, 1) := by decide +kernel
theorem dX2_blocksOf_11 : decode cX2_blocksOf 11 = .ok (.aload_n 0, 1) := by decide +kernel
theorem dX2_blocksOf_12 : decode cX2_blocksOf 12 = .ok (.getfield 9, 3) := by decide +kernel
theorem dX2_blocksOf_15 : decode cX2_blocksOf 15 = .ok (.iload_n 3, 1) := by decide +kernel
theorem dX2_blocksOf_16 : decode cX2_blocksOf 16 = .ok (.iaload, 1) := by decide +kernel
theorem dX2_blocksOf_17 : decode cX2_blocksOf 17 = .ok (.iload_n 1, 1) := by decide +kernel
theorem dX2_blocksOf_18 : decode cX2_blocksOf 18 = .ok (.if_icmp .ne 7, 3) := by decide +kernel
theorem dX2_blocksOf_21 : decode cX2_blocksOf 21 = .ok (.iconst 1, 1) := by decide +kernel
theorem dX2_blocksOf_22 : decode cX2_blocksOf 22 = .ok (.goto 4, 3) := by decide +kernel
theorem dX2_blocksOf_25 : decode cX2_blocksOf 25 = .ok (.iconst 0, 1) := by decide +kernel
theorem dX2_blocksOf_26 : decode cX2_blocksOf 26 = .ok (.iadd, 1) := by decide +kernel
theorem dX2_blocksOf_27 : decode cX2_blocksOf 27 = .ok (.istore_n 2, 1) := by decide +kernel
theorem dX2_blocksOf_28 : decode cX2_blocksOf 28 = .ok (.iinc 3 1, 3) := by decide +kernel
theorem dX2_blocksOf_31 : decode cX2_blocksOf 31 = .ok (.goto (-27), 3) := by decide +kernel
theorem dX2_blocksOf_34 : decode cX2_blocksOf 34 = .ok (.iload_n 2, 1) := by decide +kernel
theorem dX2_blocksOf_35 : decode cX2_blocksOf 35 = .ok (.ireturn, 1) := by decide +kernel
set_option maxRecDepth 20000 in
theorem ggX2_freshBlocks_X2_blocksOf : GoodIn wsX2_freshBlocks wsX2_blocksOf := goodIn_r _ [5, 6, 7, 8, 9, 10, 11, 12, 13, 14, 15, 16, 17, 18, 19, 20] (by decide +kernel) (by decide +kernel)
set_option maxRecDepth 20000 in
theorem gX2_freshBlocks_X2_blocksOf : GoodIn wsX2_freshBlocks (wsV RX2 64 RX2 yX2_blocksOf wsX2_blocksOf) := goodIn_app (goodIn_of _ (by decide +kernel)) ggX2_freshBlocks_X2_blocksOf
theorem dX2_freshBlocks_0 : decode cX2_freshBlocks 0 = .ok (.bipush 12, 2) := by decide +kernel
theorem dX2_freshBlocks_2 : decode cX2_freshBlocks 2 = .ok (.aload_n 0, 1) := by decide +kernel
theorem dX2_freshBlocks_3 : decode cX2_freshBlocks 3 = .ok (.iconst 0, 1) := by decide +kernel
theorem dX2_freshBlocks_4 : decode cX2_freshBlocks 4 = .ok (.invokevirtual 64, 3) := by decide +kernel
theorem dX2_freshBlocks_7 : decode cX2_freshBlocks 7 = .ok (.isub, 1) := by decide +kernel
theorem dX2_freshBlocks_8 : decode cX2_freshBlocks 8 = .ok (.aload_n 0, 1) := by decide +kernel
theorem dX2_freshBlocks_9 : decode cX2_freshBlocks 9 = .ok (.iconst 1, 1) := by decide +kernel
theorem dX2_freshBlocks_10 : decode cX2_freshBlocks 10 = .ok (.invokevirtual 64, 3) := by decide +kernel
theorem dX2_freshBlocks_13 : decode cX2_freshBlocks 13 = .ok (.isub, 1) := by decide +kernel
theorem dX2_freshBlocks_14 : decode cX2_freshBlocks 14 = .ok (.ireturn, 1) := by decide +kernel
theorem dX2_bandsGot_0 : decode cX2_bandsGot 0 = .ok (.iconst 0, 1) := by decide +kernel
theorem dX2_bandsGot_1 : decode cX2_bandsGot 1 = .ok (.istore_n 1, 1) := by decide +kernel
theorem dX2_bandsGot_2 : decode cX2_bandsGot 2 = .ok (.iconst 0, 1) := by decide +kernel
theorem dX2_bandsGot_3 : decode cX2_bandsGot 3 = .ok (.istore_n 2, 1) := by decide +kernel
theorem dX2_bandsGot_4 : decode cX2_bandsGot 4 = .ok (.iload_n 2, 1) := by decide +kernel
theorem dX2_bandsGot_5 : decode cX2_bandsGot 5 = .ok (.iconst 3, 1) := by decide +kernel
theorem dX2_bandsGot_6 : decode cX2_bandsGot 6 = .ok (.if_icmp .ge 26, 3) := by decide +kernel
theorem dX2_bandsGot_9 : decode cX2_bandsGot 9 = .ok (.iload_n 1, 1) := by decide +kernel
theorem dX2_bandsGot_10 : decode cX2_bandsGot 10 = .ok (.aload_n 0, 1) := by decide +kernel
theorem dX2_bandsGot_11 : decode cX2_bandsGot 11 = .ok (.getfield 33, 3) := by decide +kernel
theorem dX2_bandsGot_14 : decode cX2_bandsGot 14 = .ok (.iload_n 2, 1) := by decide +kernel
theorem dX2_bandsGot_15 : decode cX2_bandsGot 15 = .ok (.baload, 1) := by decide +kernel
theorem dX2_bandsGot_16 : decode cX2_bandsGot 16 = .ok (.ifCond .eq 7, 3) := by decide +kernel
theorem dX2_bandsGot_19 : decode cX2_bandsGot 19 = .ok (.iconst 1, 1) := by decide +kernel
theorem dX2_bandsGot_20 : decode cX2_bandsGot 20 = .ok (.goto 4, 3) := by decide +kernel
theorem dX2_bandsGot_23 : decode cX2_bandsGot 23 = .ok (.iconst 0, 1) := by decide +kernel
theorem dX2_bandsGot_24 : decode cX2_bandsGot 24 = .ok (.iadd, 1) := by decide +kernel
theorem dX2_bandsGot_25 : decode cX2_bandsGot 25 = .ok (.istore_n 1, 1) := by decide +kernel
theorem dX2_bandsGot_26 : decode cX2_bandsGot 26 = .ok (.iinc 2 1, 3) := by decide +kernel
theorem dX2_bandsGot_29 : decode cX2_bandsGot 29 = .ok (.goto (-25), 3) := by decide +kernel
theorem dX2_bandsGot_32 : decode cX2_bandsGot 32 = .ok (.iload_n 1, 1) := by decide +kernel
theorem dX2_bandsGot_33 : decode cX2_bandsGot 33 = .ok (.ireturn, 1) := by decide +kernel
set_option maxRecDepth 20000 in
theorem ggX2_expectedX_X5_isFirstOfBand : GoodIn wsX2_expectedX wsX5_isFirstOfBand := goodIn_r _ [4] (by decide +kernel) (by decide +kernel)
set_option maxRecDepth 20000 in
theorem gX2_expectedX_X5_isFirstOfBand_n67 : GoodIn wsX2_expectedX (wsX5_isFirstOfBand) := ggX2_expectedX_X5_isFirstOfBand
theorem dX2_expectedX_0 : decode cX2_expectedX 0 = .ok (.iload_n 1, 1) := by decide +kernel
theorem dX2_expectedX_1 : decode cX2_expectedX 1 = .ok (.invokestatic 67, 3) := by decide +kernel
theorem dX2_expectedX_4 : decode cX2_expectedX 4 = .ok (.ifCond .eq 7, 3) := by decide +kernel
theorem dX2_expectedX_7 : decode cX2_expectedX 7 = .ok (.iconst 0, 1) := by decide +kernel
theorem dX2_expectedX_8 : decode cX2_expectedX 8 = .ok (.goto 11, 3) := by decide +kernel
theorem dX2_expectedX_11 : decode cX2_expectedX 11 = .ok (.aload_n 0, 1) := by decide +kernel
theorem dX2_expectedX_12 : decode cX2_expectedX 12 = .ok (.getfield 15, 3) := by decide +kernel
theorem dX2_expectedX_15 : decode cX2_expectedX 15 = .ok (.iload_n 1, 1) := by decide +kernel
theorem dX2_expectedX_16 : decode cX2_expectedX 16 = .ok (.iconst 1, 1) := by decide +kernel
theorem dX2_expectedX_17 : decode cX2_expectedX 17 = .ok (.isub, 1) := by decide +kernel
theorem dX2_expectedX_18 : decode cX2_expectedX 18 = .ok (.iaload, 1) := by decide +kernel
theorem dX2_expectedX_19 : decode cX2_expectedX 19 = .ok (.ireturn, 1) := by decide +kernel
set_option maxRecDepth 20000 in
theorem ggX2_expectedY_X5_isFirstOfBand : GoodIn wsX2_expectedY wsX5_isFirstOfBand := goodIn_r _ [4] (by decide +kernel) (by decide +kernel)
set_option maxRecDepth 20000 in
theorem gX2_expectedY_X5_isFirstOfBand_n67 : GoodIn wsX2_expectedY (wsX5_isFirstOfBand) := ggX2_expectedY_X5_isFirstOfBand
theorem dX2_expectedY_0 : decode cX2_expectedY 0 = .ok (.iload_n 1, 1) := by decide +kernel
theorem dX2_expectedY_1 : decode cX2_expectedY 1 = .ok (.invokestatic 67, 3) := by decide +kernel
theorem dX2_expectedY_4 : decode cX2_expectedY 4 = .ok (.ifCond .eq 7, 3) := by decide +kernel
theorem dX2_expectedY_7 : decode cX2_expectedY 7 = .ok (.iconst 0, 1) := by decide +kernel
theorem dX2_expectedY_8 : decode cX2_expectedY 8 = .ok (.goto 11, 3) := by decide +kernel
theorem dX2_expectedY_11 : decode cX2_expectedY 11 = .ok (.aload_n 0, 1) := by decide +kernel
theorem dX2_expectedY_12 : decode cX2_expectedY 12 = .ok (.getfield 18, 3) := by decide +kernel
theorem dX2_expectedY_15 : decode cX2_expectedY 15 = .ok (.iload_n 1, 1) := by decide +kernel
theorem dX2_expectedY_16 : decode cX2_expectedY 16 = .ok (.iconst 1, 1) := by decide +kernel
theorem dX2_expectedY_17 : decode cX2_expectedY 17 = .ok (.isub, 1) := by decide +kernel
theorem dX2_expectedY_18 : decode cX2_expectedY 18 = .ok (.iaload, 1) := by decide +kernel
theorem dX2_expectedY_19 : decode cX2_expectedY 19 = .ok (.ireturn, 1) := by decide +kernel
set_option maxRecDepth 20000 in
theorem ggX2_digestOn_X2_levelsNotZero : GoodIn wsX2_digestOn wsX2_levelsNotZero := goodIn_r _ [12, 13, 29, 30, 31, 32, 33, 34, 35, 36, 37, 38, 39, 40, 41, 42] (by decide +kernel) (by decide +kernel)
set_option maxRecDepth 20000 in
theorem gX2_digestOn_X2_levelsNotZero : GoodIn wsX2_digestOn (wsV RX2 73 RX2 yX2_levelsNotZero wsX2_levelsNotZero) := goodIn_app (goodIn_of _ (by decide +kernel)) ggX2_digestOn_X2_levelsNotZero
set_option maxRecDepth 20000 in
theorem ggX2_digestOn_X2_digestPacket : GoodIn wsX2_digestOn wsX2_digestPacket := goodIn_r _ [17, 1, 18, 19, 20, 21, 22, 23, 11, 24, 25, 26, 27, 28, 29, 30, 31, 32, 33, 34, 35, 36, 37, 38, 39, 40, 41, 42] (by decide +kernel) (by decide +kernel)
set_option maxRecDepth 20000 in
theorem gX2_digestOn_X2_digestPacket : GoodIn wsX2_digestOn (wsV RX2 76 RX2 yX2_digestPacket wsX2_digestPacket) := goodIn_app (goodIn_of _ (by decide +kernel)) ggX2_digestOn_X2_digestPacket
theorem dX2_digestOn_0 : decode cX2_digestOn 0 = .ok (.lload_n 1, 1) := by decide +kernel
theorem dX2_digestOn_1 : decode cX2_digestOn 1 = .ok (.ldc2_w 71, 3) := by decide +kernel
theorem dX2_digestOn_4 : decode cX2_digestOn 4 = .ok (.lmul, 1) := by decide +kernel
theorem dX2_digestOn_5 : decode cX2_digestOn 5 = .ok (.aload_n 0, 1) := by decide +kernel
theorem dX2_digestOn_6 : decode cX2_digestOn 6 = .ok (.getfield 50, 3) := by decide +kernel
theorem dX2_digestOn_9 : decode cX2_digestOn 9 = .ok (.ifCond .eq 7, 3) := by decide +kernel
theorem dX2_digestOn_12 : decode cX2_digestOn 12 = .ok (.iconst 1, 1) := by decide +kernel
theorem dX2_digestOn_13 : decode cX2_digestOn 13 = .ok (.goto 4, 3) := by decide +kernel
theorem dX2_digestOn_16 : decode cX2_digestOn 16 = .ok (.iconst 0, 1) := by decide +kernel
theorem dX2_digestOn_17 : decode cX2_digestOn 17 = .ok (.i2l, 1) := by decide +kernel
theorem dX2_digestOn_18 : decode cX2_digestOn 18 = .ok (.ladd, 1) := by decide +kernel
theorem dX2_digestOn_19 : decode cX2_digestOn 19 = .ok (.lstore_n 3, 1) := by decide +kernel
theorem dX2_digestOn_20 : decode cX2_digestOn 20 = .ok (.lload_n 3, 1) := by decide +kernel
theorem dX2_digestOn_21 : decode cX2_digestOn 21 = .ok (.ldc2_w 71, 3) := by decide +kernel
theorem dX2_digestOn_24 : decode cX2_digestOn 24 = .ok (.lmul, 1) := by decide +kernel
theorem dX2_digestOn_25 : decode cX2_digestOn 25 = .ok (.aload_n 0, 1) := by decide +kernel
theorem dX2_digestOn_26 : decode cX2_digestOn 26 = .ok (.getfield 44, 3) := by decide +kernel
theorem dX2_digestOn_29 : decode cX2_digestOn 29 = .ok (.i2l, 1) := by decide +kernel
theorem dX2_digestOn_30 : decode cX2_digestOn 30 = .ok (.ladd, 1) := by decide +kernel
theorem dX2_digestOn_31 : decode cX2_digestOn 31 = .ok (.lstore_n 3, 1) := by decide +kernel
theorem dX2_digestOn_32 : decode cX2_digestOn 32 = .ok (.lload_n 3, 1) := by decide +kernel
theorem dX2_digestOn_33 : decode cX2_digestOn 33 = .ok (.ldc2_w 71, 3) := by decide +kernel
theorem dX2_digestOn_36 : decode cX2_digestOn 36 = .ok (.lmul, 1) := by decide +kernel
theorem dX2_digestOn_37 : decode cX2_digestOn 37 = .ok (.aload_n 0, 1) := by decide +kernel
theorem dX2_digestOn_38 : decode cX2_digestOn 38 = .ok (.getfield 47, 3) := by decide +kernel
theorem dX2_digestOn_41 : decode cX2_digestOn 41 = .ok (.i2l, 1) := by decide +kernel
theorem dX2_digestOn_42 : decode cX2_digestOn 42 = .ok (.ladd, 1) := by decide +kernel
theorem dX2_digestOn_43 : decode cX2_digestOn 43 = .ok (.lstore_n 3, 1) := by decide +kernel
theorem dX2_digestOn_44 : decode cX2_digestOn 44 = .ok (.iconst 0, 1) := by decide +kernel
theorem dX2_digestOn_45 : decode cX2_digestOn 45 = .ok (.istore 5, 2) := by decide +kernel
theorem dX2_digestOn_47 : decode cX2_digestOn 47 = .ok (.iload 5, 2) := by decide +kernel
theorem dX2_digestOn_49 : decode cX2_digestOn 49 = .ok (.bipush 12, 2) := by decide +kernel
theorem dX2_digestOn_51 : decode cX2_digestOn 51 = .ok (.if_icmp .ge 68, 3) := by decide +kernel
theorem dX2_digestOn_54 : decode cX2_digestOn 54 = .ok (.lload_n 3, 1) := by decide +kernel
theorem dX2_digestOn_55 : decode cX2_digestOn 55 = .ok (.ldc2_w 71, 3) := by decide +kernel
theorem dX2_digestOn_58 : decode cX2_digestOn 58 = .ok (.lmul, 1) := by decide +kernel
theorem dX2_digestOn_59 : decode cX2_digestOn 59 = .ok (.aload_n 0, 1) := by decide +kernel
theorem dX2_digestOn_60 : decode cX2_digestOn 60 = .ok (.getfield 9, 3) := by decide +kernel
theorem dX2_digestOn_63 : decode cX2_digestOn 63 = .ok (.iload 5, 2) := by decide +kernel
theorem dX2_digestOn_65 : decode cX2_digestOn 65 = .ok (.iaload, 1) := by decide +kernel
theorem dX2_digestOn_66 : decode cX2_digestOn 66 = .ok (.i2l, 1) := by decide +kernel
theorem dX2_digestOn_67 : decode cX2_digestOn 67 = .ok (.ladd, 1) := by decide +kernel
theorem dX2_digestOn_68 : decode cX2_digestOn 68 = .ok (.lstore_n 3, 1) := by decide +kernel
theorem dX2_digestOn_69 : decode cX2_digestOn 69 = .ok (.lload_n 3, 1) := by decide +kernel
theorem dX2_digestOn_70 : decode cX2_digestOn 70 = .ok (.ldc2_w 71, 3) := by decide +kernel
theorem dX2_digestOn_73 : decode cX2_digestOn 73 = .ok (.lmul, 1) := by decide +kernel
theorem dX2_digestOn_74 : decode cX2_digestOn 74 = .ok (.aload_n 0, 1) := by decide +kernel
theorem dX2_digestOn_75 : decode cX2_digestOn 75 = .ok (.getfield 15, 3) := by decide +kernel
theorem dX2_digestOn_78 : decode cX2_digestOn 78 = .ok (.iload 5, 2) := by decide +kernel
theorem dX2_digestOn_80 : decode cX2_digestOn 80 = .ok (.iaload, 1) := by decide +kernel
theorem dX2_digestOn_81 : decode cX2_digestOn 81 = .ok (.i2l, 1) := by decide +kernel
theorem dX2_digestOn_82 : decode cX2_digestOn 82 = .ok (.ladd, 1) := by decide +kernel
theorem dX2_digestOn_83 : decode cX2_digestOn 83 = .ok (.lstore_n 3, 1) := by decide +kernel
theorem dX2_digestOn_84 : decode cX2_digestOn 84 = .ok (.lload_n 3, 1) := by decide +kernel
theorem dX2_digestOn_85 : decode cX2_digestOn 85 = .ok (.ldc2_w 71, 3) := by decide +kernel
theorem dX2_digestOn_88 : decode cX2_digestOn 88 = .ok (.lmul, 1) := by decide +kernel
theorem dX2_digestOn_89 : decode cX2_digestOn 89 = .ok (.aload_n 0, 1) := by decide +kernel
theorem dX2_digestOn_90 : decode cX2_digestOn 90 = .ok (.getfield 18, 3) := by decide +kernel
theorem dX2_digestOn_93 : decode cX2_digestOn 93 = .ok (.iload 5, 2) := by decide +kernel
theorem dX2_digestOn_95 : decode cX2_digestOn 95 = .ok (.iaload, 1) := by decide +kernel
theorem dX2_digestOn_96 : decode cX2_digestOn 96 = .ok (.i2l, 1) := by decide +kernel
theorem dX2_digestOn_97 : decode cX2_digestOn 97 = .ok (.ladd, 1) := by decide +kernel
theorem dX2_digestOn_98 : decode cX2_digestOn 98 = .ok (.lstore_n 3, 1) := by decide +kernel
theorem dX2_digestOn_99 : decode cX2_digestOn 99 = .ok (.lload_n 3, 1) := by decide +kernel
theorem dX2_digestOn_100 : decode cX2_digestOn 100 = .ok (.ldc2_w 71, 3) := by decide +kernel
theorem dX2_digestOn_103 : decode cX2_digestOn 103 = .ok (.lmul, 1) := by decide +kernel
theorem dX2_digestOn_104 : decode cX2_digestOn 104 = .ok (.aload_n 0, 1) := by decide +kernel
theorem dX2_digestOn_105 : decode cX2_digestOn 105 = .ok (.iload 5, 2) := by decide +kernel
theorem dX2_digestOn_107 : decode cX2_digestOn 107 = .ok (.invokevirtual 73, 3) := by decide +kernel
theorem dX2_digestOn_110 : decode cX2_digestOn 110 = .ok (.i2l, 1) := by decide +kernel
theorem dX2_digestOn_111 : decode cX2_digestOn 111 = .ok (.ladd, 1) := by decide +kernel
theorem dX2_digestOn_112 : decode cX2_digestOn 112 = .ok (.lstore_n 3, 1) := by decide +kernel
theorem dX2_digestOn_113 : decode cX2_digestOn 113 = .ok (.iinc 5 1, 3) := by decide +kernel
theorem dX2_digestOn_116 : decode cX2_digestOn 116 = .ok (.goto (-69), 3) := by decide +kernel
theorem dX2_digestOn_119 : decode cX2_digestOn 119 = .ok (.iconst 0, 1) := by decide +kernel
theorem dX2_digestOn_120 : decode cX2_digestOn 120 = .ok (.istore 5, 2) := by decide +kernel
theorem dX2_digestOn_122 : decode cX2_digestOn 122 = .ok (.iload 5, 2) := by decide +kernel
theorem dX2_digestOn_124 : decode cX2_digestOn 124 = .ok (.iconst 3, 1) := by decide +kernel
theorem dX2_digestOn_125 : decode cX2_digestOn 125 = .ok (.if_icmp .ge 17, 3) := by decide +kernel
theorem dX2_digestOn_128 : decode cX2_digestOn 128 = .ok (.aload_n 0, 1) := by decide +kernel
theorem dX2_digestOn_129 : decode cX2_digestOn 129 = .ok (.lload_n 3, 1) := by decide +kernel
theorem dX2_digestOn_130 : decode cX2_digestOn 130 = .ok (.iload 5, 2) := by decide +kernel
theorem dX2_digestOn_132 : decode cX2_digestOn 132 = .ok (.invokevirtual 76, 3) := by decide +kernel
theorem dX2_digestOn_135 : decode cX2_digestOn 135 = .ok (.lstore_n 3, 1) := by decide +kernel
theorem dX2_digestOn_136 : decode cX2_digestOn 136 = .ok (.iinc 5 1, 3) := by decide +kernel
theorem dX2_digestOn_139 : decode cX2_digestOn 139 = .ok (.goto (-17), 3) := by decide +kernel
theorem dX2_digestOn_142 : decode cX2_digestOn 142 = .ok (.lload_n 3, 1) := by decide +kernel
theorem dX2_digestOn_143 : decode cX2_digestOn 143 = .ok (.lreturn, 1) := by decide +kernel
set_option maxRecDepth 20000 in
theorem ggX2_digestPacket_X2_bytesIn : GoodIn wsX2_digestPacket wsX2_bytesIn := goodIn_r _ [9, 2, 14, 15, 16, 17, 18, 19, 20, 21, 22, 23, 24, 25, 26, 27] (by decide +kernel) (by decide +kernel)
set_option maxRecDepth 20000 in
theorem gX2_digestPacket_X2_bytesIn : GoodIn wsX2_digestPacket (wsV RX2 57 RX2 yX2_bytesIn wsX2_bytesIn) := goodIn_app (goodIn_of _ (by decide +kernel)) ggX2_digestPacket_X2_bytesIn
set_option maxRecDepth 20000 in
theorem ggX2_digestPacket_X2_firstByteOf : GoodIn wsX2_digestPacket wsX2_firstByteOf := goodIn_r _ [13, 5, 6, 7, 8, 9, 2, 14, 15, 16, 17, 18, 19, 20, 21, 22, 23, 24, 25, 26, 27] (by decide +kernel) (by decide +kernel)
set_option maxRecDepth 20000 in
theorem gX2_digestPacket_X2_firstByteOf : GoodIn wsX2_digestPacket (wsV RX2 61 RX2 yX2_firstByteOf wsX2_firstByteOf) := goodIn_app (goodIn_of _ (by decide +kernel)) ggX2_digestPacket_X2_firstByteOf
theorem dX2_digestPacket_0 : decode cX2_digestPacket 0 = .ok (.lload_n 1, 1) := by decide +kernel
theorem dX2_digestPacket_1 : decode cX2_digestPacket 1 = .ok (.ldc2_w 71, 3) := by decide +kernel
theorem dX2_digestPacket_4 : decode cX2_digestPacket 4 = .ok (.lmul, 1) := by decide +kernel
theorem dX2_digestPacket_5 : decode cX2_digestPacket 5 = .ok (.aload_n 0, 1) := by decide +kernel
theorem dX2_digestPacket_6 : decode cX2_digestPacket 6 = .ok (.iload_n 3, 1) := by decide +kernel
theorem dX2_digestPacket_7 : decode cX2_digestPacket 7 = .ok (.invokevirtual 57, 3) := by decide +kernel
theorem dX2_digestPacket_10 : decode cX2_digestPacket 10 = .ok (.i2l, 1) := by decide +kernel
theorem dX2_digestPacket_11 : decode cX2_digestPacket 11 = .ok (.ladd, 1) := by decide +kernel
theorem dX2_digestPacket_12 : decode cX2_digestPacket 12 = .ok (.lstore 4, 2) := by decide +kernel
theorem dX2_digestPacket_14 : decode cX2_digestPacket 14 = .ok (.lload 4, 2) := by decide +kernel
theorem dX2_digestPacket_16 : decode cX2_digestPacket 16 = .ok (.ldc2_w 71, 3) := by decide +kernel
theorem dX2_digestPacket_19 : decode cX2_digestPacket 19 = .ok (.lmul, 1) := by decide +kernel
theorem dX2_digestPacket_20 : decode cX2_digestPacket 20 = .ok (.aload_n 0, 1) := by decide +kernel
theorem dX2_digestPacket_21 : decode cX2_digestPacket 21 = .ok (.getfield 30, 3) := by decide +kernel
theorem dX2_digestPacket_24 : decode cX2_digestPacket 24 = .ok (.iload_n 3, 1) := by decide +kernel
theorem dX2_digestPacket_25 : decode cX2_digestPacket 25 = .ok (.iaload, 1) := by decide +kernel
theorem dX2_digestPacket_26 : decode cX2_digestPacket 26 = .ok (.i2l, 1) := by decide +kernel
theorem dX2_digestPacket_27 : decode cX2_digestPacket 27 = .ok (.ladd, 1) := by decide +kernel
theorem dX2_digestPacket_28 : decode cX2_digestPacket 28 = .ok (.lstore 4, 2) := by decide +kernel
theorem dX2_digestPacket_30 : decode cX2_digestPacket 30 = .ok (.lload 4, 2) := by decide +kernel
theorem dX2_digestPacket_32 : decode cX2_digestPacket 32 = .ok (.ldc2_w 71, 3) := by decide +kernel
theorem dX2_digestPacket_35 : decode cX2_digestPacket 35 = .ok (.lmul, 1) := by decide +kernel
theorem dX2_digestPacket_36 : decode cX2_digestPacket 36 = .ok (.aload_n 0, 1) := by decide +kernel
theorem dX2_digestPacket_37 : decode cX2_digestPacket 37 = .ok (.getfield 33, 3) := by decide +kernel
theorem dX2_digestPacket_40 : decode cX2_digestPacket 40 = .ok (.iload_n 3, 1) := by decide +kernel
theorem dX2_digestPacket_41 : decode cX2_digestPacket 41 = .ok (.baload, 1) := by decide +kernel
theorem dX2_digestPacket_42 : decode cX2_digestPacket 42 = .ok (.ifCond .eq 7, 3) := by decide +kernel
theorem dX2_digestPacket_45 : decode cX2_digestPacket 45 = .ok (.iconst 1, 1) := by decide +kernel
theorem dX2_digestPacket_46 : decode cX2_digestPacket 46 = .ok (.goto 4, 3) := by decide +kernel
theorem dX2_digestPacket_49 : decode cX2_digestPacket 49 = .ok (.iconst 0, 1) := by decide +kernel
theorem dX2_digestPacket_50 : decode cX2_digestPacket 50 = .ok (.i2l, 1) := by decide +kernel
theorem dX2_digestPacket_51 : decode cX2_digestPacket 51 = .ok (.ladd, 1) := by decide +kernel
theorem dX2_digestPacket_52 : decode cX2_digestPacket 52 = .ok (.lstore 4, 2) := by decide +kernel
theorem dX2_digestPacket_54 : decode cX2_digestPacket 54 = .ok (.aload_n 0, 1) := by decide +kernel
theorem dX2_digestPacket_55 : decode cX2_digestPacket 55 = .ok (.iload_n 3, 1) := by decide +kernel
theorem dX2_digestPacket_56 : decode cX2_digestPacket 56 = .ok (.invokevirtual 61, 3) := by decide +kernel
theorem dX2_digestPacket_59 : decode cX2_digestPacket 59 = .ok (.istore 6, 2) := by decide +kernel
theorem dX2_digestPacket_61 : decode cX2_digestPacket 61 = .ok (.iload 6, 2) := by decide +kernel
theorem dX2_digestPacket_63 : decode cX2_digestPacket 63 = .ok (.istore 7, 2) := by decide +kernel
theorem dX2_digestPacket_65 : decode cX2_digestPacket 65 = .ok (.iload 7, 2) := by decide +kernel
theorem dX2_digestPacket_67 : decode cX2_digestPacket 67 = .ok (.iload 6, 2) := by decide +kernel
theorem dX2_digestPacket_69 : decode cX2_digestPacket 69 = .ok (.aload_n 0, 1) := by decide +kernel
theorem dX2_digestPacket_70 : decode cX2_digestPacket 70 = .ok (.iload_n 3, 1) := by decide +kernel
theorem dX2_digestPacket_71 : decode cX2_digestPacket 71 = .ok (.invokevirtual 57, 3) := by decide +kernel
theorem dX2_digestPacket_74 : decode cX2_digestPacket 74 = .ok (.iadd, 1) := by decide +kernel
theorem dX2_digestPacket_75 : decode cX2_digestPacket 75 = .ok (.if_icmp .ge 36, 3) := by decide +kernel
theorem dX2_digestPacket_78 : decode cX2_digestPacket 78 = .ok (.iload 7, 2) := by decide +kernel
theorem dX2_digestPacket_80 : decode cX2_digestPacket 80 = .ok (.aload_n 0, 1) := by decide +kernel
theorem dX2_digestPacket_81 : decode cX2_digestPacket 81 = .ok (.getfield 37, 3) := by decide +kernel
theorem dX2_digestPacket_84 : decode cX2_digestPacket 84 = .ok (.arraylength, 1) := by decide +kernel
theorem dX2_digestPacket_85 : decode cX2_digestPacket 85 = .ok (.if_icmp .ge 26, 3) := by decide +kernel
theorem dX2_digestPacket_88 : decode cX2_digestPacket 88 = .ok (.lload 4, 2) := by decide +kernel
theorem dX2_digestPacket_90 : decode cX2_digestPacket 90 = .ok (.ldc2_w 71, 3) := by decide +kernel
theorem dX2_digestPacket_93 : decode cX2_digestPacket 93 = .ok (.lmul, 1) := by decide +kernel
theorem dX2_digestPacket_94 : decode cX2_digestPacket 94 = .ok (.aload_n 0, 1) := by decide +kernel
theorem dX2_digestPacket_95 : decode cX2_digestPacket 95 = .ok (.getfield 37, 3) := by decide +kernel
theorem dX2_digestPacket_98 : decode cX2_digestPacket 98 = .ok (.iload 7, 2) := by decide +kernel
theorem dX2_digestPacket_100 : decode cX2_digestPacket 100 = .ok (.iaload, 1) := by decide +kernel
theorem dX2_digestPacket_101 : decode cX2_digestPacket 101 = .ok (.i2l, 1) := by decide +kernel
theorem dX2_digestPacket_102 : decode cX2_digestPacket 102 = .ok (.ladd, 1) := by decide +kernel
theorem dX2_digestPacket_103 : decode cX2_digestPacket 103 = .ok (.lstore 4, 2) := by decide +kernel
theorem dX2_digestPacket_105 : decode cX2_digestPacket 105 = .ok (.iinc 7 1, 3) := by decide +kernel
theorem dX2_digestPacket_108 : decode cX2_digestPacket 108 = .ok (.goto (-43), 3) := by decide +kernel
theorem dX2_digestPacket_111 : decode cX2_digestPacket 111 = .ok (.lload 4, 2) := by decide +kernel
theorem dX2_digestPacket_113 : decode cX2_digestPacket 113 = .ok (.lreturn, 1) := by decide +kernel
theorem dX3_init_0 : decode cX3_init 0 = .ok (.aload_n 0, 1) := by decide +kernel
theorem dX3_init_1 : decode cX3_init 1 = .ok (.invokespecial 5, 3) := by decide +kernel
theorem dX3_init_4 : decode cX3_init 4 = .ok (.aload_n 0, 1) := by decide +kernel
theorem dX3_init_5 : decode cX3_init 5 = .ok (.sipush 1140, 3) := by decide +kernel
theorem dX3_init_8 : decode cX3_init 8 = .ok (.newarray .int, 2) := by decide +kernel
theorem dX3_init_10 : decode cX3_init 10 = .ok (.putfield 11, 3) := by decide +kernel
theorem dX3_init_13 : decode cX3_init 13 = .ok (.aload_n 0, 1) := by decide +kernel
theorem dX3_init_14 : decode cX3_init 14 = .ok (.bipush 16, 2) := by decide +kernel
theorem dX3_init_16 : decode cX3_init 16 = .ok (.newarray .int, 2) := by decide +kernel
theorem dX3_init_18 : decode cX3_init 18 = .ok (.putfield 15, 3) := by decide +kernel
theorem dX3_init_21 : decode cX3_init 21 = .ok (.aload_n 0, 1) := by decide +kernel
theorem dX3_init_22 : decode cX3_init 22 = .ok (.sipush 768, 3) := by decide +kernel
theorem dX3_init_25 : decode cX3_init 25 = .ok (.newarray .int, 2) := by decide +kernel
theorem dX3_init_27 : decode cX3_init 27 = .ok (.putfield 18, 3) := by decide +kernel
theorem dX3_init_30 : decode cX3_init 30 = .ok (.aload_n 0, 1) := by decide +kernel
theorem dX3_init_31 : decode cX3_init 31 = .ok (.bipush 64, 2) := by decide +kernel
theorem dX3_init_33 : decode cX3_init 33 = .ok (.newarray .int, 2) := by decide +kernel
theorem dX3_init_35 : decode cX3_init 35 = .ok (.putfield 21, 3) := by decide +kernel
theorem dX3_init_38 : decode cX3_init 38 = .ok (.return_, 1) := by decide +kernel
set_option maxRecDepth 20000 in
theorem ggX3_lookAhead_X5_onRow : GoodIn wsX3_lookAhead wsX5_onRow := goodIn_r _ [4, 5, 6, 7, 8, 9, 10, 11] (by decide +kernel) (by decide +kernel)
set_option maxRecDepth 20000 in
theorem gX3_lookAhead_X5_onRow_n24 : GoodIn wsX3_lookAhead (wsX5_onRow) := ggX3_lookAhead_X5_onRow
theorem dX3_lookAhead_0 : decode cX3_lookAhead 0 = .ok (.iconst 0, 1) := by decide +kernel
theorem dX3_lookAhead_1 : decode cX3_lookAhead 1 = .ok (.istore_n 2, 1) := by decide +kernel
theorem dX3_lookAhead_2 : decode cX3_lookAhead 2 = .ok (.iload_n 2, 1) := by decide +kernel
theorem dX3_lookAhead_3 : decode cX3_lookAhead 3 = .ok (.bipush 30, 2) := by decide +kernel
theorem dX3_lookAhead_5 : decode cX3_lookAhead 5 = .ok (.if_icmp .ge 62, 3) := by decide +kernel
theorem dX3_lookAhead_8 : decode cX3_lookAhead 8 = .ok (.iload_n 2, 1) := by decide +kernel
theorem dX3_lookAhead_9 : decode cX3_lookAhead 9 = .ok (.iconst 3, 1) := by decide +kernel
theorem dX3_lookAhead_10 : decode cX3_lookAhead 10 = .ok (.isub, 1) := by decide +kernel
theorem dX3_lookAhead_11 : decode cX3_lookAhead 11 = .ok (.bipush 24, 2) := by decide +kernel
theorem dX3_lookAhead_13 : decode cX3_lookAhead 13 = .ok (.invokestatic 24, 3) := by decide +kernel
theorem dX3_lookAhead_16 : decode cX3_lookAhead 16 = .ok (.bipush 32, 2) := by decide +kernel
theorem dX3_lookAhead_18 : decode cX3_lookAhead 18 = .ok (.imul, 1) := by decide +kernel
theorem dX3_lookAhead_19 : decode cX3_lookAhead 19 = .ok (.istore_n 3, 1) := by decide +kernel
theorem dX3_lookAhead_20 : decode cX3_lookAhead 20 = .ok (.iconst 0, 1) := by decide +kernel
theorem dX3_lookAhead_21 : decode cX3_lookAhead 21 = .ok (.istore 4, 2) := by decide +kernel
theorem dX3_lookAhead_23 : decode cX3_lookAhead 23 = .ok (.iload 4, 2) := by decide +kernel
theorem dX3_lookAhead_25 : decode cX3_lookAhead 25 = .ok (.bipush 38, 2) := by decide +kernel
theorem dX3_lookAhead_27 : decode cX3_lookAhead 27 = .ok (.if_icmp .ge 34, 3) := by decide +kernel
theorem dX3_lookAhead_30 : decode cX3_lookAhead 30 = .ok (.aload_n 0, 1) := by decide +kernel
theorem dX3_lookAhead_31 : decode cX3_lookAhead 31 = .ok (.getfield 11, 3) := by decide +kernel
theorem dX3_lookAhead_34 : decode cX3_lookAhead 34 = .ok (.iload_n 2, 1) := by decide +kernel
theorem dX3_lookAhead_35 : decode cX3_lookAhead 35 = .ok (.bipush 38, 2) := by decide +kernel
theorem dX3_lookAhead_37 : decode cX3_lookAhead 37 = .ok (.imul, 1) := by decide +kernel
theorem dX3_lookAhead_38 : decode cX3_lookAhead 38 = .ok (.iload 4, 2) := by decide +kernel
theorem dX3_lookAhead_40 : decode cX3_lookAhead 40 = .ok (.iadd, 1) := by decide +kernel
theorem dX3_lookAhead_41 : decode cX3_lookAhead 41 = .ok (.aload_n 1, 1) := by decide +kernel
theorem dX3_lookAhead_42 : decode cX3_lookAhead 42 = .ok (.iload_n 3, 1) := by decide +kernel
theorem dX3_lookAhead_43 : decode cX3_lookAhead 43 = .ok (.iload 4, 2) := by decide +kernel
theorem dX3_lookAhead_45 : decode cX3_lookAhead 45 = .ok (.iconst 3, 1) := by decide +kernel
theorem dX3_lookAhead_46 : decode cX3_lookAhead 46 = .ok (.isub, 1) := by decide +kernel
theorem dX3_lookAhead_47 : decode cX3_lookAhead 47 = .ok (.bipush 32, 2) := by decide +kernel
theorem dX3_lookAhead_49 : decode cX3_lookAhead 49 = .ok (.invokestatic 24, 3) := by decide +kernel
theorem dX3_lookAhead_52 : decode cX3_lookAhead 52 = .ok (.iadd, 1) := by decide +kernel
theorem dX3_lookAhead_53 : decode cX3_lookAhead 53 = .ok (.iaload, 1) := by decide +kernel
theorem dX3_lookAhead_54 : decode cX3_lookAhead 54 = .ok (.iastore, 1) := by decide +kernel
theorem dX3_lookAhead_55 : decode cX3_lookAhead 55 = .ok (.iinc 4 1, 3) := by decide +kernel
theorem dX3_lookAhead_58 : decode cX3_lookAhead 58 = .ok (.goto (-35), 3) := by decide +kernel
theorem dX3_lookAhead_61 : decode cX3_lookAhead 61 = .ok (.iinc 2 1, 3) := by decide +kernel
theorem dX3_lookAhead_64 : decode cX3_lookAhead 64 = .ok (.goto (-62), 3) := by decide +kernel
theorem dX3_lookAhead_67 : decode cX3_lookAhead 67 = .ok (.return_, 1) := by decide +kernel
set_option maxRecDepth 20000 in
theorem ggX3_foretell_X3_foretellMoved : GoodIn wsX3_foretell wsX3_foretellMoved := goodIn_r _ [5, 6, 7, 8, 9, 4, 10, 11, 12, 13, 14, 15, 40, 41, 42, 43] (by decide +kernel) (by decide +kernel)
set_option maxRecDepth 20000 in
theorem gX3_foretell_X3_foretellMoved : GoodIn wsX3_foretell (wsV RX3 28 RX3 yX3_foretellMoved wsX3_foretellMoved) := goodIn_app (goodIn_of _ (by decide +kernel)) ggX3_foretell_X3_foretellMoved
set_option maxRecDepth 20000 in
theorem ggX3_foretell_X3_foretellFlat : GoodIn wsX3_foretell wsX3_foretellFlat := goodIn_r _ [19, 20, 6, 21, 22, 23, 24, 25, 26, 27, 28, 29, 40, 41, 42, 43] (by decide +kernel) (by decide +kernel)
set_option maxRecDepth 20000 in
theorem gX3_foretell_X3_foretellFlat : GoodIn wsX3_foretell (wsV RX3 32 RX3 yX3_foretellFlat wsX3_foretellFlat) := goodIn_app (goodIn_of _ (by decide +kernel)) ggX3_foretell_X3_foretellFlat
set_option maxRecDepth 20000 in
theorem ggX3_foretell_X3_foretellLeft : GoodIn wsX3_foretell wsX3_foretellLeft := goodIn_r _ [33, 6, 20, 21, 22, 23, 24, 25, 40, 41, 42, 43] (by decide +kernel) (by decide +kernel)
set_option maxRecDepth 20000 in
theorem gX3_foretell_X3_foretellLeft : GoodIn wsX3_foretell (wsV RX3 36 RX3 yX3_foretellLeft wsX3_foretellLeft) := goodIn_app (goodIn_of _ (by decide +kernel)) ggX3_foretell_X3_foretellLeft
set_option maxRecDepth 20000 in
theorem ggX3_foretell_X3_foretellTrend : GoodIn wsX3_foretell wsX3_foretellTrend := goodIn_r _ [37, 20, 6, 21, 22, 23, 24, 25, 38, 39, 40, 41, 42, 43] (by decide +kernel) (by decide +kernel)
set_option maxRecDepth 20000 in
theorem gX3_foretell_X3_foretellTrend : GoodIn wsX3_foretell (wsV RX3 39 RX3 yX3_foretellTrend wsX3_foretellTrend) := goodIn_app (goodIn_of _ (by decide +kernel)) ggX3_foretell_X3_foretellTrend
theorem dX3_foretell_0 : decode cX3_foretell 0 = .ok (.iload_n 1, 1) := by decide +kernel
theorem dX3_foretell_1 : decode cX3_foretell 1 = .ok (.tableswitch 58 0 3 #[31, 31, 42, 50], 31) := by decide +kernel
theorem dX3_foretell_32 : decode cX3_foretell 32 = .ok (.aload_n 0, 1) := by decide +kernel
theorem dX3_foretell_33 : decode cX3_foretell 33 = .ok (.iload_n 2, 1) := by decide +kernel
theorem dX3_foretell_34 : decode cX3_foretell 34 = .ok (.iload_n 3, 1) := by decide +kernel
theorem dX3_foretell_35 : decode cX3_foretell 35 = .ok (.iload 4, 2) := by decide +kernel
theorem dX3_foretell_37 : decode cX3_foretell 37 = .ok (.invokevirtual 28, 3) := by decide +kernel
theorem dX3_foretell_40 : decode cX3_foretell 40 = .ok (.goto 24, 3) := by decide +kernel
theorem dX3_foretell_43 : decode cX3_foretell 43 = .ok (.aload_n 0, 1) := by decide +kernel
theorem dX3_foretell_44 : decode cX3_foretell 44 = .ok (.iload_n 2, 1) := by decide +kernel
theorem dX3_foretell_45 : decode cX3_foretell 45 = .ok (.invokevirtual 32, 3) := by decide +kernel
theorem dX3_foretell_48 : decode cX3_foretell 48 = .ok (.goto 16, 3) := by decide +kernel
theorem dX3_foretell_51 : decode cX3_foretell 51 = .ok (.aload_n 0, 1) := by decide +kernel
theorem dX3_foretell_52 : decode cX3_foretell 52 = .ok (.iload_n 2, 1) := by decide +kernel
theorem dX3_foretell_53 : decode cX3_foretell 53 = .ok (.invokevirtual 36, 3) := by decide +kernel
theorem dX3_foretell_56 : decode cX3_foretell 56 = .ok (.goto 8, 3) := by decide +kernel
theorem dX3_foretell_59 : decode cX3_foretell 59 = .ok (.aload_n 0, 1) := by decide +kernel
theorem dX3_foretell_60 : decode cX3_foretell 60 = .ok (.iload_n 2, 1) := by decide +kernel
theorem dX3_foretell_61 : decode cX3_foretell 61 = .ok (.invokevirtual 39, 3) := by decide +kernel
theorem dX3_foretell_64 : decode cX3_foretell 64 = .ok (.return_, 1) := by decide +kernel
set_option maxRecDepth 20000 in
theorem ggX3_foretellMoved_X3_startAhead : GoodIn wsX3_foretellMoved wsX3_startAhead := goodIn_r _ [6] (by decide +kernel) (by decide +kernel)
set_option maxRecDepth 20000 in
theorem gX3_foretellMoved_X3_startAhead : GoodIn wsX3_foretellMoved (wsV RX3 42 RX3 yX3_startAhead wsX3_startAhead) := goodIn_app (goodIn_of _ (by decide +kernel)) ggX3_foretellMoved_X3_startAhead
set_option maxRecDepth 20000 in
theorem ggX3_foretellMoved_X3_between : GoodIn wsX3_foretellMoved wsX3_between := goodIn_r _ [10, 11, 12, 13, 14, 15] (by decide +kernel) (by decide +kernel)
set_option maxRecDepth 20000 in
theorem gX3_foretellMoved_X3_between : GoodIn wsX3_foretellMoved (wsV RX3 46 RX3 yX3_between wsX3_between) := goodIn_app (goodIn_of _ (by decide +kernel)) ggX3_foretellMoved_X3_between
theorem dX3_foretellMoved_0 : decode cX3_foretellMoved 0 = .ok (.aload_n 0, 1) := by decide +kernel
theorem dX3_foretellMoved_1 : decode cX3_foretellMoved 1 = .ok (.iload_n 1, 1) := by decide +kernel
theorem dX3_foretellMoved_2 : decode cX3_foretellMoved 2 = .ok (.iload_n 2, 1) := by decide +kernel
theorem dX3_foretellMoved_3 : decode cX3_foretellMoved 3 = .ok (.iload_n 3, 1) := by decide +kernel
theorem dX3_foretellMoved_4 : decode cX3_foretellMoved 4 = .ok (.invokevirtual 42, 3) := by decide +kernel
theorem dX3_foretellMoved_7 : decode cX3_foretellMoved 7 = .ok (.istore 4, 2) := by decide +kernel
theorem dX3_foretellMoved_9 : decode cX3_foretellMoved 9 = .ok (.iload_n 2, 1) := by decide +kernel
theorem dX3_foretellMoved_10 : decode cX3_foretellMoved 10 = .ok (.iconst 1, 1) := by decide +kernel
theorem dX3_foretellMoved_11 : decode cX3_foretellMoved 11 = .ok (.iand, 1) := by decide +kernel
theorem dX3_foretellMoved_12 : decode cX3_foretellMoved 12 = .ok (.istore 5, 2) := by decide +kernel
theorem dX3_foretellMoved_14 : decode cX3_foretellMoved 14 = .ok (.iload_n 3, 1) := by decide +kernel
theorem dX3_foretellMoved_15 : decode cX3_foretellMoved 15 = .ok (.iconst 1, 1) := by decide +kernel
theorem dX3_foretellMoved_16 : decode cX3_foretellMoved 16 = .ok (.iand, 1) := by decide +kernel
theorem dX3_foretellMoved_17 : decode cX3_foretellMoved 17 = .ok (.bipush 38, 2) := by decide +kernel
theorem dX3_foretellMoved_19 : decode cX3_foretellMoved 19 = .ok (.imul, 1) := by decide +kernel
theorem dX3_foretellMoved_20 : decode cX3_foretellMoved 20 = .ok (.istore 6, 2) := by decide +kernel
theorem dX3_foretellMoved_22 : decode cX3_foretellMoved 22 = .ok (.iconst 0, 1) := by decide +kernel
theorem dX3_foretellMoved_23 : decode cX3_foretellMoved 23 = .ok (.istore 7, 2) := by decide +kernel
theorem dX3_foretellMoved_25 : decode cX3_foretellMoved 25 = .ok (.iload 7, 2) := by decide +kernel
theorem dX3_foretellMoved_27 : decode cX3_foretellMoved 27 = .ok (.bipush 64, 2) := by decide +kernel
theorem dX3_foretellMoved_29 : decode cX3_foretellMoved 29 = .ok (.if_icmp .ge 45, 3) := by decide +kernel
theorem dX3_foretellMoved_32 : decode cX3_foretellMoved 32 = .ok (.iload 4, 2) := by decide +kernel
theorem dX3_foretellMoved_34 : decode cX3_foretellMoved 34 = .ok (.iload 7, 2) := by decide +kernel
theorem dX3_foretellMoved_36 : decode cX3_foretellMoved 36 = .ok (.bipush 8, 2) := by decide +kernel
theorem dX3_foretellMoved_38 : decode cX3_foretellMoved 38 = .ok (.idiv, 1) := by decide +kernel
theorem dX3_foretellMoved_39 : decode cX3_foretellMoved 39 = .ok (.bipush 38, 2) := by decide +kernel
theorem dX3_foretellMoved_41 : decode cX3_foretellMoved 41 = .ok (.imul, 1) := by decide +kernel
theorem dX3_foretellMoved_42 : decode cX3_foretellMoved 42 = .ok (.iadd, 1) := by decide +kernel
theorem dX3_foretellMoved_43 : decode cX3_foretellMoved 43 = .ok (.iload 7, 2) := by decide +kernel
theorem dX3_foretellMoved_45 : decode cX3_foretellMoved 45 = .ok (.bipush 8, 2) := by decide +kernel
theorem dX3_foretellMoved_47 : decode cX3_foretellMoved 47 = .ok (.irem, 1) := by decide +kernel
theorem dX3_foretellMoved_48 : decode cX3_foretellMoved 48 = .ok (.iadd, 1) := by decide +kernel
theorem dX3_foretellMoved_49 : decode cX3_foretellMoved 49 = .ok (.istore 8, 2) := by decide +kernel
theorem dX3_foretellMoved_51 : decode cX3_foretellMoved 51 = .ok (.aload_n 0, 1) := by decide +kernel
theorem dX3_foretellMoved_52 : decode cX3_foretellMoved 52 = .ok (.getfield 21, 3) := by decide +kernel
theorem dX3_foretellMoved_55 : decode cX3_foretellMoved 55 = .ok (.iload 7, 2) := by decide +kernel
theorem dX3_foretellMoved_57 : decode cX3_foretellMoved 57 = .ok (.aload_n 0, 1) := by decide +kernel
theorem dX3_foretellMoved_58 : decode cX3_foretellMoved 58 = .ok (.iload 8, 2) := by decide +kernel
theorem dX3_foretellMoved_60 : decode cX3_foretellMoved 60 = .ok (.iload 5, 2) := by decide +kernel
theorem dX3_foretellMoved_62 : decode cX3_foretellMoved 62 = .ok (.iload 6, 2) := by decide +kernel
theorem dX3_foretellMoved_64 : decode cX3_foretellMoved 64 = .ok (.invokevirtual 46, 3) := by decide +kernel
theorem dX3_foretellMoved_67 : decode cX3_foretellMoved 67 = .ok (.iastore, 1) := by decide +kernel
theorem dX3_foretellMoved_68 : decode cX3_foretellMoved 68 = .ok (.iinc 7 1, 3) := by decide +kernel
theorem dX3_foretellMoved_71 : decode cX3_foretellMoved 71 = .ok (.goto (-46), 3) := by decide +kernel
theorem dX3_foretellMoved_74 : decode cX3_foretellMoved 74 = .ok (.return_, 1) := by decide +kernel
set_option maxRecDepth 20000 in
theorem ggX3_differenceMoved_X3_startAhead : GoodIn wsX3_differenceMoved wsX3_startAhead := goodIn_r _ [9] (by decide +kernel) (by decide +kernel)
set_option maxRecDepth 20000 in
theorem gX3_differenceMoved_X3_startAhead : GoodIn wsX3_differenceMoved (wsV RX3 42 RX3 yX3_startAhead wsX3_startAhead) := goodIn_app (goodIn_of _ (by decide +kernel)) ggX3_differenceMoved_X3_startAhead
set_option maxRecDepth 20000 in
theorem ggX3_differenceMoved_X5_firstPointOf : GoodIn wsX3_differenceMoved wsX5_firstPointOf := goodIn_r _ [12] (by decide +kernel) (by decide +kernel)
set_option maxRecDepth 20000 in
theorem gX3_differenceMoved_X5_firstPointOf_n49 : GoodIn wsX3_differenceMoved (wsX5_firstPointOf) := ggX3_differenceMoved_X5_firstPointOf
set_option maxRecDepth 20000 in
theorem ggX3_differenceMoved_X3_between : GoodIn wsX3_differenceMoved wsX3_between := goodIn_r _ [16, 17, 18, 19, 20, 21] (by decide +kernel) (by decide +kernel)
set_option maxRecDepth 20000 in
theorem gX3_differenceMoved_X3_between : GoodIn wsX3_differenceMoved (wsV RX3 46 RX3 yX3_between wsX3_between) := goodIn_app (goodIn_of _ (by decide +kernel)) ggX3_differenceMoved_X3_between
theorem dX3_differenceMoved_0 : decode cX3_differenceMoved 0 = .ok (.aload_n 0, 1) := by decide +kernel
theorem dX3_differenceMoved_1 : decode cX3_differenceMoved 1 = .ok (.iload_n 2, 1) := by decide +kernel
theorem dX3_differenceMoved_2 : decode cX3_differenceMoved 2 = .ok (.iload_n 3, 1) := by decide +kernel
theorem dX3_differenceMoved_3 : decode cX3_differenceMoved 3 = .ok (.iload 4, 2) := by decide +kernel
theorem dX3_differenceMoved_5 : decode cX3_differenceMoved 5 = .ok (.invokevirtual 42, 3) := by decide +kernel
theorem dX3_differenceMoved_8 : decode cX3_differenceMoved 8 = .ok (.istore 6, 2) := by decide +kernel
theorem dX3_differenceMoved_10 : decode cX3_differenceMoved 10 = .ok (.iload_n 3, 1) := by decide +kernel
theorem dX3_differenceMoved_11 : decode cX3_differenceMoved 11 = .ok (.iconst 1, 1) := by decide +kernel
theorem dX3_differenceMoved_12 : decode cX3_differenceMoved 12 = .ok (.iand, 1) := by decide +kernel
theorem dX3_differenceMoved_13 : decode cX3_differenceMoved 13 = .ok (.istore 7, 2) := by decide +kernel
theorem dX3_differenceMoved_15 : decode cX3_differenceMoved 15 = .ok (.iload 4, 2) := by decide +kernel
theorem dX3_differenceMoved_17 : decode cX3_differenceMoved 17 = .ok (.iconst 1, 1) := by decide +kernel
theorem dX3_differenceMoved_18 : decode cX3_differenceMoved 18 = .ok (.iand, 1) := by decide +kernel
theorem dX3_differenceMoved_19 : decode cX3_differenceMoved 19 = .ok (.bipush 38, 2) := by decide +kernel
theorem dX3_differenceMoved_21 : decode cX3_differenceMoved 21 = .ok (.imul, 1) := by decide +kernel
theorem dX3_differenceMoved_22 : decode cX3_differenceMoved 22 = .ok (.istore 8, 2) := by decide +kernel
theorem dX3_differenceMoved_24 : decode cX3_differenceMoved 24 = .ok (.iload_n 2, 1) := by decide +kernel
theorem dX3_differenceMoved_25 : decode cX3_differenceMoved 25 = .ok (.invokestatic 49, 3) := by decide +kernel
theorem dX3_differenceMoved_28 : decode cX3_differenceMoved 28 = .ok (.istore 9, 2) := by decide +kernel
theorem dX3_differenceMoved_30 : decode cX3_differenceMoved 30 = .ok (.iconst 0, 1) := by decide +kernel
theorem dX3_differenceMoved_31 : decode cX3_differenceMoved 31 = .ok (.istore 10, 2) := by decide +kernel
theorem dX3_differenceMoved_33 : decode cX3_differenceMoved 33 = .ok (.iconst 0, 1) := by decide +kernel
theorem dX3_differenceMoved_34 : decode cX3_differenceMoved 34 = .ok (.istore 11, 2) := by decide +kernel
theorem dX3_differenceMoved_36 : decode cX3_differenceMoved 36 = .ok (.iload 11, 2) := by decide +kernel
theorem dX3_differenceMoved_38 : decode cX3_differenceMoved 38 = .ok (.bipush 8, 2) := by decide +kernel
theorem dX3_differenceMoved_40 : decode cX3_differenceMoved 40 = .ok (.if_icmp .ge 77, 3) := by decide +kernel
theorem dX3_differenceMoved_43 : decode cX3_differenceMoved 43 = .ok (.iload 10, 2) := by decide +kernel
theorem dX3_differenceMoved_45 : decode cX3_differenceMoved 45 = .ok (.iload 5, 2) := by decide +kernel
theorem dX3_differenceMoved_47 : decode cX3_differenceMoved 47 = .ok (.if_icmp .ge 70, 3) := by decide +kernel
theorem dX3_differenceMoved_50 : decode cX3_differenceMoved 50 = .ok (.iconst 0, 1) := by decide +kernel
theorem dX3_differenceMoved_51 : decode cX3_differenceMoved 51 = .ok (.istore 12, 2) := by decide +kernel
theorem dX3_differenceMoved_53 : decode cX3_differenceMoved 53 = .ok (.iload 12, 2) := by decide +kernel
theorem dX3_differenceMoved_55 : decode cX3_differenceMoved 55 = .ok (.bipush 8, 2) := by decide +kernel
theorem dX3_differenceMoved_57 : decode cX3_differenceMoved 57 = .ok (.if_icmp .ge 54, 3) := by decide +kernel
theorem dX3_differenceMoved_60 : decode cX3_differenceMoved 60 = .ok (.aload_n 0, 1) := by decide +kernel
theorem dX3_differenceMoved_61 : decode cX3_differenceMoved 61 = .ok (.iload 6, 2) := by decide +kernel
theorem dX3_differenceMoved_63 : decode cX3_differenceMoved 63 = .ok (.iload 11, 2) := by decide +kernel
theorem dX3_differenceMoved_65 : decode cX3_differenceMoved 65 = .ok (.bipush 38, 2) := by decide +kernel
theorem dX3_differenceMoved_67 : decode cX3_differenceMoved 67 = .ok (.imul, 1) := by decide +kernel
theorem dX3_differenceMoved_68 : decode cX3_differenceMoved 68 = .ok (.iadd, 1) := by decide +kernel
theorem dX3_differenceMoved_69 : decode cX3_differenceMoved 69 = .ok (.iload 12, 2) := by decide +kernel
theorem dX3_differenceMoved_71 : decode cX3_differenceMoved 71 = .ok (.iadd, 1) := by decide +kernel
theorem dX3_differenceMoved_72 : decode cX3_differenceMoved 72 = .ok (.iload 7, 2) := by decide +kernel
theorem dX3_differenceMoved_74 : decode cX3_differenceMoved 74 = .ok (.iload 8, 2) := by decide +kernel
theorem dX3_differenceMoved_76 : decode cX3_differenceMoved 76 = .ok (.invokevirtual 46, 3) := by decide +kernel
theorem dX3_differenceMoved_79 : decode cX3_differenceMoved 79 = .ok (.istore 13, 2) := by decide +kernel
theorem dX3_differenceMoved_81 : decode cX3_differenceMoved 81 = .ok (.iload 10, 2) := by decide +kernel
theorem dX3_differenceMoved_83 : decode cX3_differenceMoved 83 = .ok (.aload_n 1, 1) := by decide +kernel
theorem dX3_differenceMoved_84 : decode cX3_differenceMoved 84 = .ok (.iload 9, 2) := by decide +kernel
theorem dX3_differenceMoved_86 : decode cX3_differenceMoved 86 = .ok (.iload 11, 2) := by decide +kernel
theorem dX3_differenceMoved_88 : decode cX3_differenceMoved 88 = .ok (.bipush 32, 2) := by decide +kernel
theorem dX3_differenceMoved_90 : decode cX3_differenceMoved 90 = .ok (.imul, 1) := by decide +kernel
theorem dX3_differenceMoved_91 : decode cX3_differenceMoved 91 = .ok (.iadd, 1) := by decide +kernel
theorem dX3_differenceMoved_92 : decode cX3_differenceMoved 92 = .ok (.iload 12, 2) := by decide +kernel
theorem dX3_differenceMoved_94 : decode cX3_differenceMoved 94 = .ok (.iadd, 1) := by decide +kernel
theorem dX3_differenceMoved_95 : decode cX3_differenceMoved 95 = .ok (.iaload, 1) := by decide +kernel
theorem dX3_differenceMoved_96 : decode cX3_differenceMoved 96 = .ok (.iload 13, 2) := by decide +kernel
theorem dX3_differenceMoved_98 : decode cX3_differenceMoved 98 = .ok (.isub, 1) := by decide +kernel
theorem dX3_differenceMoved_99 : decode cX3_differenceMoved 99 = .ok (.invokestatic 53, 3) := by decide +kernel
theorem dX3_differenceMoved_102 : decode cX3_differenceMoved 102 = .ok (.iadd, 1) := by decide +kernel
theorem dX3_differenceMoved_103 : decode cX3_differenceMoved 103 = .ok (.istore 10, 2) := by decide +kernel
theorem dX3_differenceMoved_105 : decode cX3_differenceMoved 105 = .ok (.iinc 12 1, 3) := by decide +kernel
theorem dX3_differenceMoved_108 : decode cX3_differenceMoved 108 = .ok (.goto (-55), 3) := by decide +kernel
theorem dX3_differenceMoved_111 : decode cX3_differenceMoved 111 = .ok (.iinc 11 1, 3) := by decide +kernel
theorem dX3_differenceMoved_114 : decode cX3_differenceMoved 114 = .ok (.goto (-78), 3) := by decide +kernel
theorem dX3_differenceMoved_117 : decode cX3_differenceMoved 117 = .ok (.iload 10, 2) := by decide +kernel
theorem dX3_differenceMoved_119 : decode cX3_differenceMoved 119 = .ok (.ireturn, 1) := by decide +kernel
theorem dX3_startAhead_0 : decode cX3_startAhead 0 = .ok (.iload_n 2, 1) := by decide +kernel
theorem dX3_startAhead_1 : decode cX3_startAhead 1 = .ok (.bipush (-6), 2) := by decide +kernel
theorem dX3_startAhead_3 : decode cX3_startAhead 3 = .ok (.if_icmp .lt 9, 3) := by decide +kernel
theorem dX3_startAhead_6 : decode cX3_startAhead 6 = .ok (.iload_n 2, 1) := by decide +kernel
theorem dX3_startAhead_7 : decode cX3_startAhead 7 = .ok (.bipush 6, 2) := by decide +kernel
theorem dX3_startAhead_9 : decode cX3_startAhead 9 = .ok (.if_icmp .le 7, 3) := by decide +kernel
theorem dX3_startAhead_12 : decode cX3_startAhead 12 = .ok (.iconst 0, 1) := by decide +kernel
theorem dX3_startAhead_13 : decode cX3_startAhead 13 = .ok (.goto 4, 3) := by decide +kernel
theorem dX3_startAhead_16 : decode cX3_startAhead 16 = .ok (.iload_n 2, 1) := by decide +kernel
theorem dX3_startAhead_17 : decode cX3_startAhead 17 = .ok (.istore 4, 2) := by decide +kernel
theorem dX3_startAhead_19 : decode cX3_startAhead 19 = .ok (.iload_n 3, 1) := by decide +kernel
theorem dX3_startAhead_20 : decode cX3_startAhead 20 = .ok (.bipush (-6), 2) := by decide +kernel
theorem dX3_startAhead_22 : decode cX3_startAhead 22 = .ok (.if_icmp .lt 9, 3) := by decide +kernel
theorem dX3_startAhead_25 : decode cX3_startAhead 25 = .ok (.iload_n 3, 1) := by decide +kernel
theorem dX3_startAhead_26 : decode cX3_startAhead 26 = .ok (.bipush 6, 2) := by decide +kernel
theorem dX3_startAhead_28 : decode cX3_startAhead 28 = .ok (.if_icmp .le 7, 3) := by decide +kernel
theorem dX3_startAhead_31 : decode cX3_startAhead 31 = .ok (.iconst 0, 1) := by decide +kernel
theorem dX3_startAhead_32 : decode cX3_startAhead 32 = .ok (.goto 4, 3) := by decide +kernel
theorem dX3_startAhead_35 : decode cX3_startAhead 35 = .ok (.iload_n 3, 1) := by decide +kernel
theorem dX3_startAhead_36 : decode cX3_startAhead 36 = .ok (.istore 5, 2) := by decide +kernel
theorem dX3_startAhead_38 : decode cX3_startAhead 38 = .ok (.iload_n 1, 1) := by decide +kernel
theorem dX3_startAhead_39 : decode cX3_startAhead 39 = .ok (.iconst 4, 1) := by decide +kernel
theorem dX3_startAhead_40 : decode cX3_startAhead 40 = .ok (.irem, 1) := by decide +kernel
theorem dX3_startAhead_41 : decode cX3_startAhead 41 = .ok (.bipush 8, 2) := by decide +kernel
theorem dX3_startAhead_43 : decode cX3_startAhead 43 = .ok (.imul, 1) := by decide +kernel
theorem dX3_startAhead_44 : decode cX3_startAhead 44 = .ok (.iconst 3, 1) := by decide +kernel
theorem dX3_startAhead_45 : decode cX3_startAhead 45 = .ok (.iadd, 1) := by decide +kernel
theorem dX3_startAhead_46 : decode cX3_startAhead 46 = .ok (.iload 4, 2) := by decide +kernel
theorem dX3_startAhead_48 : decode cX3_startAhead 48 = .ok (.iconst 1, 1) := by decide +kernel
theorem dX3_startAhead_49 : decode cX3_startAhead 49 = .ok (.ishr, 1) := by decide +kernel
theorem dX3_startAhead_50 : decode cX3_startAhead 50 = .ok (.iadd, 1) := by decide +kernel
theorem dX3_startAhead_51 : decode cX3_startAhead 51 = .ok (.istore 6, 2) := by decide +kernel
theorem dX3_startAhead_53 : decode cX3_startAhead 53 = .ok (.iload_n 1, 1) := by decide +kernel
theorem dX3_startAhead_54 : decode cX3_startAhead 54 = .ok (.iconst 4, 1) := by decide +kernel
theorem dX3_startAhead_55 : decode cX3_startAhead 55 = .ok (.idiv, 1) := by decide +kernel
theorem dX3_startAhead_56 : decode cX3_startAhead 56 = .ok (.bipush 8, 2) := by decide +kernel
theorem dX3_startAhead_58 : decode cX3_startAhead 58 = .ok (.imul, 1) := by decide +kernel
theorem dX3_startAhead_59 : decode cX3_startAhead 59 = .ok (.iconst 3, 1) := by decide +kernel
theorem dX3_startAhead_60 : decode cX3_startAhead 60 = .ok (.iadd, 1) := by decide +kernel
theorem dX3_startAhead_61 : decode cX3_startAhead 61 = .ok (.iload 5, 2) := by decide +kernel
theorem dX3_startAhead_63 : decode cX3_startAhead 63 = .ok (.iconst 1, 1) := by decide +kernel
theorem dX3_startAhead_64 : decode cX3_startAhead 64 = .ok (.ishr, 1) := by decide +kernel
theorem dX3_startAhead_65 : decode cX3_startAhead 65 = .ok (.iadd, 1) := by decide +kernel
theorem dX3_startAhead_66 : decode cX3_startAhead 66 = .ok (.istore 7, 2) := by decide +kernel
theorem dX3_startAhead_68 : decode cX3_startAhead 68 = .ok (.iload 7, 2) := by decide +kernel
theorem dX3_startAhead_70 : decode cX3_startAhead 70 = .ok (.bipush 38, 2) := by decide +kernel
theorem dX3_startAhead_72 : decode cX3_startAhead 72 = .ok (.imul, 1) := by decide +kernel
end
section
theorem dX3_startAhead_73 : decode cX3_startAhead 73 = .ok (.iload 6, 2) := by decide +kernel
theorem dX3_startAhead_75 : decode cX3_startAhead 75 = .ok (.iadd, 1) := by decide +kernel
theorem dX3_startAhead_76 : decode cX3_startAhead 76 = .ok (.ireturn, 1) := by decide +kernel
theorem dX3_between_0 : decode cX3_between 0 = .ok (.iload_n 2, 1) := by decide +kernel
theorem dX3_between_1 : decode cX3_between 1 = .ok (.ifCond .ne 14, 3) := by decide +kernel
theorem dX3_between_4 : decode cX3_between 4 = .ok (.iload_n 3, 1) := by decide +kernel
theorem dX3_between_5 : decode cX3_between 5 = .ok (.ifCond .ne 10, 3) := by decide +kernel
theorem dX3_between_8 : decode cX3_between 8 = .ok (.aload_n 0, 1) := by decide +kernel
theorem dX3_between_9 : decode cX3_between 9 = .ok (.getfield 11, 3) := by decide +kernel
theorem dX3_between_12 : decode cX3_between 12 = .ok (.iload_n 1, 1) := by decide +kernel
theorem dX3_between_13 : decode cX3_between 13 = .ok (.iaload, 1) := by decide +kernel
theorem dX3_between_14 : decode cX3_between 14 = .ok (.ireturn, 1) := by decide +kernel
theorem dX3_between_15 : decode cX3_between 15 = .ok (.aload_n 0, 1) := by decide +kernel
theorem dX3_between_16 : decode cX3_between 16 = .ok (.getfield 11, 3) := by decide +kernel
theorem dX3_between_19 : decode cX3_between 19 = .ok (.iload_n 1, 1) := by decide +kernel
theorem dX3_between_20 : decode cX3_between 20 = .ok (.iaload, 1) := by decide +kernel
theorem dX3_between_21 : decode cX3_between 21 = .ok (.aload_n 0, 1) := by decide +kernel
theorem dX3_between_22 : decode cX3_between 22 = .ok (.getfield 11, 3) := by decide +kernel
theorem dX3_between_25 : decode cX3_between 25 = .ok (.iload_n 1, 1) := by decide +kernel
theorem dX3_between_26 : decode cX3_between 26 = .ok (.iload_n 2, 1) := by decide +kernel
theorem dX3_between_27 : decode cX3_between 27 = .ok (.iadd, 1) := by decide +kernel
theorem dX3_between_28 : decode cX3_between 28 = .ok (.iaload, 1) := by decide +kernel
theorem dX3_between_29 : decode cX3_between 29 = .ok (.iadd, 1) := by decide +kernel
theorem dX3_between_30 : decode cX3_between 30 = .ok (.istore 4, 2) := by decide +kernel
theorem dX3_between_32 : decode cX3_between 32 = .ok (.aload_n 0, 1) := by decide +kernel
theorem dX3_between_33 : decode cX3_between 33 = .ok (.getfield 11, 3) := by decide +kernel
theorem dX3_between_36 : decode cX3_between 36 = .ok (.iload_n 1, 1) := by decide +kernel
theorem dX3_between_37 : decode cX3_between 37 = .ok (.iload_n 3, 1) := by decide +kernel
theorem dX3_between_38 : decode cX3_between 38 = .ok (.iadd, 1) := by decide +kernel
theorem dX3_between_39 : decode cX3_between 39 = .ok (.iaload, 1) := by decide +kernel
theorem dX3_between_40 : decode cX3_between 40 = .ok (.aload_n 0, 1) := by decide +kernel
theorem dX3_between_41 : decode cX3_between 41 = .ok (.getfield 11, 3) := by decide +kernel
theorem dX3_between_44 : decode cX3_between 44 = .ok (.iload_n 1, 1) := by decide +kernel
theorem dX3_between_45 : decode cX3_between 45 = .ok (.iload_n 3, 1) := by decide +kernel
theorem dX3_between_46 : decode cX3_between 46 = .ok (.iadd, 1) := by decide +kernel
theorem dX3_between_47 : decode cX3_between 47 = .ok (.iload_n 2, 1) := by decide +kernel
theorem dX3_between_48 : decode cX3_between 48 = .ok (.iadd, 1) := by decide +kernel
theorem dX3_between_49 : decode cX3_between 49 = .ok (.iaload, 1) := by decide +kernel
theorem dX3_between_50 : decode cX3_between 50 = .ok (.iadd, 1) := by decide +kernel
theorem dX3_between_51 : decode cX3_between 51 = .ok (.istore 5, 2) := by decide +kernel
theorem dX3_between_53 : decode cX3_between 53 = .ok (.iload 4, 2) := by decide +kernel
theorem dX3_between_55 : decode cX3_between 55 = .ok (.iload 5, 2) := by decide +kernel
theorem dX3_between_57 : decode cX3_between 57 = .ok (.iadd, 1) := by decide +kernel
theorem dX3_between_58 : decode cX3_between 58 = .ok (.iconst 2, 1) := by decide +kernel
theorem dX3_between_59 : decode cX3_between 59 = .ok (.iadd, 1) := by decide +kernel
theorem dX3_between_60 : decode cX3_between 60 = .ok (.iconst 2, 1) := by decide +kernel
theorem dX3_between_61 : decode cX3_between 61 = .ok (.ishr, 1) := by decide +kernel
theorem dX3_between_62 : decode cX3_between 62 = .ok (.ireturn, 1) := by decide +kernel
set_option maxRecDepth 20000 in
theorem ggX3_foretellFlat_X5_isFirstOfBand : GoodIn wsX3_foretellFlat wsX5_isFirstOfBand := goodIn_r _ [5] (by decide +kernel) (by decide +kernel)
set_option maxRecDepth 20000 in
theorem gX3_foretellFlat_X5_isFirstOfBand_n58 : GoodIn wsX3_foretellFlat (wsX5_isFirstOfBand) := ggX3_foretellFlat_X5_isFirstOfBand
set_option maxRecDepth 20000 in
theorem ggX3_foretellFlat_X5_firstPointOf : GoodIn wsX3_foretellFlat wsX5_firstPointOf := goodIn_r _ [7] (by decide +kernel) (by decide +kernel)
set_option maxRecDepth 20000 in
theorem gX3_foretellFlat_X5_firstPointOf_n49 : GoodIn wsX3_foretellFlat (wsX5_firstPointOf) := ggX3_foretellFlat_X5_firstPointOf
set_option maxRecDepth 20000 in
theorem ggX3_foretellFlat_J7_fill_53178 : GoodIn wsX3_foretellFlat wsJ7_fill_53178 := goodIn_r _ [11] (by decide +kernel) (by decide +kernel)
set_option maxRecDepth 20000 in
theorem gX3_foretellFlat_J7_fill_53178 : GoodIn wsX3_foretellFlat (va_wsS RX3 62 yJ7_fill_53178 wsJ7_fill_53178) := goodIn_app (goodIn_of _ (by decide +kernel)) ggX3_foretellFlat_J7_fill_53178
theorem dX3_foretellFlat_0 : decode cX3_foretellFlat 0 = .ok (.sipush 128, 3) := by decide +kernel
theorem dX3_foretellFlat_3 : decode cX3_foretellFlat 3 = .ok (.istore_n 2, 1) := by decide +kernel
theorem dX3_foretellFlat_4 : decode cX3_foretellFlat 4 = .ok (.iload_n 1, 1) := by decide +kernel
theorem dX3_foretellFlat_5 : decode cX3_foretellFlat 5 = .ok (.invokestatic 58, 3) := by decide +kernel
theorem dX3_foretellFlat_8 : decode cX3_foretellFlat 8 = .ok (.ifCond .ne 53, 3) := by decide +kernel
theorem dX3_foretellFlat_11 : decode cX3_foretellFlat 11 = .ok (.iload_n 1, 1) := by decide +kernel
theorem dX3_foretellFlat_12 : decode cX3_foretellFlat 12 = .ok (.invokestatic 49, 3) := by decide +kernel
theorem dX3_foretellFlat_15 : decode cX3_foretellFlat 15 = .ok (.iconst 1, 1) := by decide +kernel
theorem dX3_foretellFlat_16 : decode cX3_foretellFlat 16 = .ok (.isub, 1) := by decide +kernel
theorem dX3_foretellFlat_17 : decode cX3_foretellFlat 17 = .ok (.istore_n 3, 1) := by decide +kernel
theorem dX3_foretellFlat_18 : decode cX3_foretellFlat 18 = .ok (.iconst 0, 1) := by decide +kernel
theorem dX3_foretellFlat_19 : decode cX3_foretellFlat 19 = .ok (.istore 4, 2) := by decide +kernel
theorem dX3_foretellFlat_21 : decode cX3_foretellFlat 21 = .ok (.iconst 0, 1) := by decide +kernel
theorem dX3_foretellFlat_22 : decode cX3_foretellFlat 22 = .ok (.istore 5, 2) := by decide +kernel
theorem dX3_foretellFlat_24 : decode cX3_foretellFlat 24 = .ok (.iload 5, 2) := by decide +kernel
theorem dX3_foretellFlat_26 : decode cX3_foretellFlat 26 = .ok (.bipush 8, 2) := by decide +kernel
theorem dX3_foretellFlat_28 : decode cX3_foretellFlat 28 = .ok (.if_icmp .ge 26, 3) := by decide +kernel
theorem dX3_foretellFlat_31 : decode cX3_foretellFlat 31 = .ok (.iload 4, 2) := by decide +kernel
theorem dX3_foretellFlat_33 : decode cX3_foretellFlat 33 = .ok (.aload_n 0, 1) := by decide +kernel
theorem dX3_foretellFlat_34 : decode cX3_foretellFlat 34 = .ok (.getfield 18, 3) := by decide +kernel
theorem dX3_foretellFlat_37 : decode cX3_foretellFlat 37 = .ok (.iload_n 3, 1) := by decide +kernel
theorem dX3_foretellFlat_38 : decode cX3_foretellFlat 38 = .ok (.iload 5, 2) := by decide +kernel
theorem dX3_foretellFlat_40 : decode cX3_foretellFlat 40 = .ok (.bipush 32, 2) := by decide +kernel
theorem dX3_foretellFlat_42 : decode cX3_foretellFlat 42 = .ok (.imul, 1) := by decide +kernel
theorem dX3_foretellFlat_43 : decode cX3_foretellFlat 43 = .ok (.iadd, 1) := by decide +kernel
theorem dX3_foretellFlat_44 : decode cX3_foretellFlat 44 = .ok (.iaload, 1) := by decide +kernel
theorem dX3_foretellFlat_45 : decode cX3_foretellFlat 45 = .ok (.iadd, 1) := by decide +kernel
theorem dX3_foretellFlat_46 : decode cX3_foretellFlat 46 = .ok (.istore 4, 2) := by decide +kernel
theorem dX3_foretellFlat_48 : decode cX3_foretellFlat 48 = .ok (.iinc 5 1, 3) := by decide +kernel
theorem dX3_foretellFlat_51 : decode cX3_foretellFlat 51 = .ok (.goto (-27), 3) := by decide +kernel
theorem dX3_foretellFlat_54 : decode cX3_foretellFlat 54 = .ok (.iload 4, 2) := by decide +kernel
theorem dX3_foretellFlat_56 : decode cX3_foretellFlat 56 = .ok (.iconst 4, 1) := by decide +kernel
theorem dX3_foretellFlat_57 : decode cX3_foretellFlat 57 = .ok (.iadd, 1) := by decide +kernel
theorem dX3_foretellFlat_58 : decode cX3_foretellFlat 58 = .ok (.iconst 3, 1) := by decide +kernel
theorem dX3_foretellFlat_59 : decode cX3_foretellFlat 59 = .ok (.ishr, 1) := by decide +kernel
theorem dX3_foretellFlat_60 : decode cX3_foretellFlat 60 = .ok (.istore_n 2, 1) := by decide +kernel
theorem dX3_foretellFlat_61 : decode cX3_foretellFlat 61 = .ok (.aload_n 0, 1) := by decide +kernel
theorem dX3_foretellFlat_62 : decode cX3_foretellFlat 62 = .ok (.getfield 21, 3) := by decide +kernel
theorem dX3_foretellFlat_65 : decode cX3_foretellFlat 65 = .ok (.iload_n 2, 1) := by decide +kernel
theorem dX3_foretellFlat_66 : decode cX3_foretellFlat 66 = .ok (.invokestatic 62, 3) := by decide +kernel
theorem dX3_foretellFlat_69 : decode cX3_foretellFlat 69 = .ok (.return_, 1) := by decide +kernel
set_option maxRecDepth 20000 in
theorem ggX3_foretellLeft_X5_isFirstOfBand : GoodIn wsX3_foretellLeft wsX5_isFirstOfBand := goodIn_r _ [5] (by decide +kernel) (by decide +kernel)
set_option maxRecDepth 20000 in
theorem gX3_foretellLeft_X5_isFirstOfBand_n58 : GoodIn wsX3_foretellLeft (wsX5_isFirstOfBand) := ggX3_foretellLeft_X5_isFirstOfBand
set_option maxRecDepth 20000 in
theorem ggX3_foretellLeft_X5_firstPointOf : GoodIn wsX3_foretellLeft wsX5_firstPointOf := goodIn_r _ [7] (by decide +kernel) (by decide +kernel)
set_option maxRecDepth 20000 in
theorem gX3_foretellLeft_X5_firstPointOf_n49 : GoodIn wsX3_foretellLeft (wsX5_firstPointOf) := ggX3_foretellLeft_X5_firstPointOf
theorem dX3_foretellLeft_0 : decode cX3_foretellLeft 0 = .ok (.iload_n 1, 1) := by decide +kernel
theorem dX3_foretellLeft_1 : decode cX3_foretellLeft 1 = .ok (.invokestatic 58, 3) := by decide +kernel
theorem dX3_foretellLeft_4 : decode cX3_foretellLeft 4 = .ok (.ifCond .eq 4, 3) := by decide +kernel
theorem dX3_foretellLeft_7 : decode cX3_foretellLeft 7 = .ok (.return_, 1) := by decide +kernel
theorem dX3_foretellLeft_8 : decode cX3_foretellLeft 8 = .ok (.iload_n 1, 1) := by decide +kernel
theorem dX3_foretellLeft_9 : decode cX3_foretellLeft 9 = .ok (.invokestatic 49, 3) := by decide +kernel
theorem dX3_foretellLeft_12 : decode cX3_foretellLeft 12 = .ok (.iconst 1, 1) := by decide +kernel
theorem dX3_foretellLeft_13 : decode cX3_foretellLeft 13 = .ok (.isub, 1) := by decide +kernel
theorem dX3_foretellLeft_14 : decode cX3_foretellLeft 14 = .ok (.istore_n 2, 1) := by decide +kernel
theorem dX3_foretellLeft_15 : decode cX3_foretellLeft 15 = .ok (.iconst 0, 1) := by decide +kernel
theorem dX3_foretellLeft_16 : decode cX3_foretellLeft 16 = .ok (.istore_n 3, 1) := by decide +kernel
theorem dX3_foretellLeft_17 : decode cX3_foretellLeft 17 = .ok (.iload_n 3, 1) := by decide +kernel
theorem dX3_foretellLeft_18 : decode cX3_foretellLeft 18 = .ok (.bipush 64, 2) := by decide +kernel
theorem dX3_foretellLeft_20 : decode cX3_foretellLeft 20 = .ok (.if_icmp .ge 29, 3) := by decide +kernel
theorem dX3_foretellLeft_23 : decode cX3_foretellLeft 23 = .ok (.aload_n 0, 1) := by decide +kernel
theorem dX3_foretellLeft_24 : decode cX3_foretellLeft 24 = .ok (.getfield 21, 3) := by decide +kernel
theorem dX3_foretellLeft_27 : decode cX3_foretellLeft 27 = .ok (.iload_n 3, 1) := by decide +kernel
theorem dX3_foretellLeft_28 : decode cX3_foretellLeft 28 = .ok (.aload_n 0, 1) := by decide +kernel
theorem dX3_foretellLeft_29 : decode cX3_foretellLeft 29 = .ok (.getfield 18, 3) := by decide +kernel
theorem dX3_foretellLeft_32 : decode cX3_foretellLeft 32 = .ok (.iload_n 2, 1) := by decide +kernel
theorem dX3_foretellLeft_33 : decode cX3_foretellLeft 33 = .ok (.iload_n 3, 1) := by decide +kernel
theorem dX3_foretellLeft_34 : decode cX3_foretellLeft 34 = .ok (.bipush 8, 2) := by decide +kernel
theorem dX3_foretellLeft_36 : decode cX3_foretellLeft 36 = .ok (.idiv, 1) := by decide +kernel
theorem dX3_foretellLeft_37 : decode cX3_foretellLeft 37 = .ok (.bipush 32, 2) := by decide +kernel
theorem dX3_foretellLeft_39 : decode cX3_foretellLeft 39 = .ok (.imul, 1) := by decide +kernel
theorem dX3_foretellLeft_40 : decode cX3_foretellLeft 40 = .ok (.iadd, 1) := by decide +kernel
theorem dX3_foretellLeft_41 : decode cX3_foretellLeft 41 = .ok (.iaload, 1) := by decide +kernel
theorem dX3_foretellLeft_42 : decode cX3_foretellLeft 42 = .ok (.iastore, 1) := by decide +kernel
theorem dX3_foretellLeft_43 : decode cX3_foretellLeft 43 = .ok (.iinc 3 1, 3) := by decide +kernel
theorem dX3_foretellLeft_46 : decode cX3_foretellLeft 46 = .ok (.goto (-29), 3) := by decide +kernel
theorem dX3_foretellLeft_49 : decode cX3_foretellLeft 49 = .ok (.return_, 1) := by decide +kernel
set_option maxRecDepth 20000 in
theorem ggX3_foretellTrend_X5_isFirstOfBand : GoodIn wsX3_foretellTrend wsX5_isFirstOfBand := goodIn_r _ [5] (by decide +kernel) (by decide +kernel)
set_option maxRecDepth 20000 in
theorem gX3_foretellTrend_X5_isFirstOfBand_n58 : GoodIn wsX3_foretellTrend (wsX5_isFirstOfBand) := ggX3_foretellTrend_X5_isFirstOfBand
set_option maxRecDepth 20000 in
theorem ggX3_foretellTrend_X5_firstPointOf : GoodIn wsX3_foretellTrend wsX5_firstPointOf := goodIn_r _ [7] (by decide +kernel) (by decide +kernel)
set_option maxRecDepth 20000 in
theorem gX3_foretellTrend_X5_firstPointOf_n49 : GoodIn wsX3_foretellTrend (wsX5_firstPointOf) := ggX3_foretellTrend_X5_firstPointOf
set_option maxRecDepth 20000 in
theorem ggX3_foretellTrend_X5_clip : GoodIn wsX3_foretellTrend wsX5_clip := goodIn_r _ [9] (by decide +kernel) (by decide +kernel)
set_option maxRecDepth 20000 in
theorem gX3_foretellTrend_X5_clip_n68 : GoodIn wsX3_foretellTrend (wsX5_clip) := ggX3_foretellTrend_X5_clip
theorem dX3_foretellTrend_0 : decode cX3_foretellTrend 0 = .ok (.iload_n 1, 1) := by decide +kernel
theorem dX3_foretellTrend_1 : decode cX3_foretellTrend 1 = .ok (.invokestatic 58, 3) := by decide +kernel
theorem dX3_foretellTrend_4 : decode cX3_foretellTrend 4 = .ok (.ifCond .eq 4, 3) := by decide +kernel
theorem dX3_foretellTrend_7 : decode cX3_foretellTrend 7 = .ok (.return_, 1) := by decide +kernel
theorem dX3_foretellTrend_8 : decode cX3_foretellTrend 8 = .ok (.iload_n 1, 1) := by decide +kernel
theorem dX3_foretellTrend_9 : decode cX3_foretellTrend 9 = .ok (.invokestatic 49, 3) := by decide +kernel
theorem dX3_foretellTrend_12 : decode cX3_foretellTrend 12 = .ok (.iconst 1, 1) := by decide +kernel
theorem dX3_foretellTrend_13 : decode cX3_foretellTrend 13 = .ok (.isub, 1) := by decide +kernel
theorem dX3_foretellTrend_14 : decode cX3_foretellTrend 14 = .ok (.istore_n 2, 1) := by decide +kernel
theorem dX3_foretellTrend_15 : decode cX3_foretellTrend 15 = .ok (.iconst 0, 1) := by decide +kernel
theorem dX3_foretellTrend_16 : decode cX3_foretellTrend 16 = .ok (.istore_n 3, 1) := by decide +kernel
theorem dX3_foretellTrend_17 : decode cX3_foretellTrend 17 = .ok (.iload_n 3, 1) := by decide +kernel
theorem dX3_foretellTrend_18 : decode cX3_foretellTrend 18 = .ok (.bipush 64, 2) := by decide +kernel
theorem dX3_foretellTrend_20 : decode cX3_foretellTrend 20 = .ok (.if_icmp .ge 69, 3) := by decide +kernel
theorem dX3_foretellTrend_23 : decode cX3_foretellTrend 23 = .ok (.aload_n 0, 1) := by decide +kernel
theorem dX3_foretellTrend_24 : decode cX3_foretellTrend 24 = .ok (.getfield 18, 3) := by decide +kernel
theorem dX3_foretellTrend_27 : decode cX3_foretellTrend 27 = .ok (.iload_n 2, 1) := by decide +kernel
theorem dX3_foretellTrend_28 : decode cX3_foretellTrend 28 = .ok (.iload_n 3, 1) := by decide +kernel
theorem dX3_foretellTrend_29 : decode cX3_foretellTrend 29 = .ok (.bipush 8, 2) := by decide +kernel
theorem dX3_foretellTrend_31 : decode cX3_foretellTrend 31 = .ok (.idiv, 1) := by decide +kernel
theorem dX3_foretellTrend_32 : decode cX3_foretellTrend 32 = .ok (.bipush 32, 2) := by decide +kernel
theorem dX3_foretellTrend_34 : decode cX3_foretellTrend 34 = .ok (.imul, 1) := by decide +kernel
theorem dX3_foretellTrend_35 : decode cX3_foretellTrend 35 = .ok (.iadd, 1) := by decide +kernel
theorem dX3_foretellTrend_36 : decode cX3_foretellTrend 36 = .ok (.iaload, 1) := by decide +kernel
theorem dX3_foretellTrend_37 : decode cX3_foretellTrend 37 = .ok (.istore 4, 2) := by decide +kernel
theorem dX3_foretellTrend_39 : decode cX3_foretellTrend 39 = .ok (.aload_n 0, 1) := by decide +kernel
theorem dX3_foretellTrend_40 : decode cX3_foretellTrend 40 = .ok (.getfield 18, 3) := by decide +kernel
theorem dX3_foretellTrend_43 : decode cX3_foretellTrend 43 = .ok (.iload_n 2, 1) := by decide +kernel
theorem dX3_foretellTrend_44 : decode cX3_foretellTrend 44 = .ok (.iload_n 3, 1) := by decide +kernel
theorem dX3_foretellTrend_45 : decode cX3_foretellTrend 45 = .ok (.bipush 8, 2) := by decide +kernel
theorem dX3_foretellTrend_47 : decode cX3_foretellTrend 47 = .ok (.idiv, 1) := by decide +kernel
theorem dX3_foretellTrend_48 : decode cX3_foretellTrend 48 = .ok (.bipush 32, 2) := by decide +kernel
theorem dX3_foretellTrend_50 : decode cX3_foretellTrend 50 = .ok (.imul, 1) := by decide +kernel
theorem dX3_foretellTrend_51 : decode cX3_foretellTrend 51 = .ok (.iadd, 1) := by decide +kernel
theorem dX3_foretellTrend_52 : decode cX3_foretellTrend 52 = .ok (.iconst 4, 1) := by decide +kernel
theorem dX3_foretellTrend_53 : decode cX3_foretellTrend 53 = .ok (.isub, 1) := by decide +kernel
theorem dX3_foretellTrend_54 : decode cX3_foretellTrend 54 = .ok (.iaload, 1) := by decide +kernel
theorem dX3_foretellTrend_55 : decode cX3_foretellTrend 55 = .ok (.istore 5, 2) := by decide +kernel
theorem dX3_foretellTrend_57 : decode cX3_foretellTrend 57 = .ok (.aload_n 0, 1) := by decide +kernel
theorem dX3_foretellTrend_58 : decode cX3_foretellTrend 58 = .ok (.getfield 21, 3) := by decide +kernel
theorem dX3_foretellTrend_61 : decode cX3_foretellTrend 61 = .ok (.iload_n 3, 1) := by decide +kernel
theorem dX3_foretellTrend_62 : decode cX3_foretellTrend 62 = .ok (.iload 4, 2) := by decide +kernel
theorem dX3_foretellTrend_64 : decode cX3_foretellTrend 64 = .ok (.iload 4, 2) := by decide +kernel
theorem dX3_foretellTrend_66 : decode cX3_foretellTrend 66 = .ok (.iload 5, 2) := by decide +kernel
theorem dX3_foretellTrend_68 : decode cX3_foretellTrend 68 = .ok (.isub, 1) := by decide +kernel
theorem dX3_foretellTrend_69 : decode cX3_foretellTrend 69 = .ok (.iload_n 3, 1) := by decide +kernel
theorem dX3_foretellTrend_70 : decode cX3_foretellTrend 70 = .ok (.bipush 8, 2) := by decide +kernel
theorem dX3_foretellTrend_72 : decode cX3_foretellTrend 72 = .ok (.irem, 1) := by decide +kernel
theorem dX3_foretellTrend_73 : decode cX3_foretellTrend 73 = .ok (.iconst 1, 1) := by decide +kernel
theorem dX3_foretellTrend_74 : decode cX3_foretellTrend 74 = .ok (.iadd, 1) := by decide +kernel
theorem dX3_foretellTrend_75 : decode cX3_foretellTrend 75 = .ok (.imul, 1) := by decide +kernel
theorem dX3_foretellTrend_76 : decode cX3_foretellTrend 76 = .ok (.iconst 2, 1) := by decide +kernel
theorem dX3_foretellTrend_77 : decode cX3_foretellTrend 77 = .ok (.ishr, 1) := by decide +kernel
theorem dX3_foretellTrend_78 : decode cX3_foretellTrend 78 = .ok (.iadd, 1) := by decide +kernel
theorem dX3_foretellTrend_79 : decode cX3_foretellTrend 79 = .ok (.invokestatic 68, 3) := by decide +kernel
theorem dX3_foretellTrend_82 : decode cX3_foretellTrend 82 = .ok (.iastore, 1) := by decide +kernel
theorem dX3_foretellTrend_83 : decode cX3_foretellTrend 83 = .ok (.iinc 3 1, 3) := by decide +kernel
theorem dX3_foretellTrend_86 : decode cX3_foretellTrend 86 = .ok (.goto (-69), 3) := by decide +kernel
theorem dX3_foretellTrend_89 : decode cX3_foretellTrend 89 = .ok (.return_, 1) := by decide +kernel
set_option maxRecDepth 20000 in
theorem ggX3_difference_X5_firstPointOf : GoodIn wsX3_difference wsX5_firstPointOf := goodIn_r _ [8] (by decide +kernel) (by decide +kernel)
set_option maxRecDepth 20000 in
theorem gX3_difference_X5_firstPointOf_n49 : GoodIn wsX3_difference (wsX5_firstPointOf) := ggX3_difference_X5_firstPointOf
theorem dX3_difference_0 : decode cX3_difference 0 = .ok (.iload_n 2, 1) := by decide +kernel
theorem dX3_difference_1 : decode cX3_difference 1 = .ok (.invokestatic 49, 3) := by decide +kernel
theorem dX3_difference_4 : decode cX3_difference 4 = .ok (.istore_n 3, 1) := by decide +kernel
theorem dX3_difference_5 : decode cX3_difference 5 = .ok (.iconst 0, 1) := by decide +kernel
theorem dX3_difference_6 : decode cX3_difference 6 = .ok (.istore 4, 2) := by decide +kernel
theorem dX3_difference_8 : decode cX3_difference 8 = .ok (.iconst 0, 1) := by decide +kernel
theorem dX3_difference_9 : decode cX3_difference 9 = .ok (.istore 5, 2) := by decide +kernel
theorem dX3_difference_11 : decode cX3_difference 11 = .ok (.iload 5, 2) := by decide +kernel
theorem dX3_difference_13 : decode cX3_difference 13 = .ok (.bipush 64, 2) := by decide +kernel
theorem dX3_difference_15 : decode cX3_difference 15 = .ok (.if_icmp .ge 43, 3) := by decide +kernel
theorem dX3_difference_18 : decode cX3_difference 18 = .ok (.iload 4, 2) := by decide +kernel
theorem dX3_difference_20 : decode cX3_difference 20 = .ok (.aload_n 1, 1) := by decide +kernel
theorem dX3_difference_21 : decode cX3_difference 21 = .ok (.iload_n 3, 1) := by decide +kernel
theorem dX3_difference_22 : decode cX3_difference 22 = .ok (.iload 5, 2) := by decide +kernel
theorem dX3_difference_24 : decode cX3_difference 24 = .ok (.bipush 8, 2) := by decide +kernel
theorem dX3_difference_26 : decode cX3_difference 26 = .ok (.idiv, 1) := by decide +kernel
theorem dX3_difference_27 : decode cX3_difference 27 = .ok (.bipush 32, 2) := by decide +kernel
theorem dX3_difference_29 : decode cX3_difference 29 = .ok (.imul, 1) := by decide +kernel
theorem dX3_difference_30 : decode cX3_difference 30 = .ok (.iadd, 1) := by decide +kernel
theorem dX3_difference_31 : decode cX3_difference 31 = .ok (.iload 5, 2) := by decide +kernel
theorem dX3_difference_33 : decode cX3_difference 33 = .ok (.bipush 8, 2) := by decide +kernel
theorem dX3_difference_35 : decode cX3_difference 35 = .ok (.irem, 1) := by decide +kernel
theorem dX3_difference_36 : decode cX3_difference 36 = .ok (.iadd, 1) := by decide +kernel
theorem dX3_difference_37 : decode cX3_difference 37 = .ok (.iaload, 1) := by decide +kernel
theorem dX3_difference_38 : decode cX3_difference 38 = .ok (.aload_n 0, 1) := by decide +kernel
theorem dX3_difference_39 : decode cX3_difference 39 = .ok (.getfield 21, 3) := by decide +kernel
theorem dX3_difference_42 : decode cX3_difference 42 = .ok (.iload 5, 2) := by decide +kernel
theorem dX3_difference_44 : decode cX3_difference 44 = .ok (.iaload, 1) := by decide +kernel
theorem dX3_difference_45 : decode cX3_difference 45 = .ok (.isub, 1) := by decide +kernel
theorem dX3_difference_46 : decode cX3_difference 46 = .ok (.invokestatic 53, 3) := by decide +kernel
theorem dX3_difference_49 : decode cX3_difference 49 = .ok (.iadd, 1) := by decide +kernel
theorem dX3_difference_50 : decode cX3_difference 50 = .ok (.istore 4, 2) := by decide +kernel
theorem dX3_difference_52 : decode cX3_difference 52 = .ok (.iinc 5 1, 3) := by decide +kernel
theorem dX3_difference_55 : decode cX3_difference 55 = .ok (.goto (-44), 3) := by decide +kernel
theorem dX3_difference_58 : decode cX3_difference 58 = .ok (.iload 4, 2) := by decide +kernel
theorem dX3_difference_60 : decode cX3_difference 60 = .ok (.ireturn, 1) := by decide +kernel
set_option maxRecDepth 20000 in
theorem ggX3_measure_X3_placeInBlock : GoodIn wsX3_measure wsX3_placeInBlock := goodIn_r _ [7] (by decide +kernel) (by decide +kernel)
set_option maxRecDepth 20000 in
theorem gX3_measure_X3_placeInBlock : GoodIn wsX3_measure (va_wsS RX3 71 yX3_placeInBlock wsX3_placeInBlock) := goodIn_app (goodIn_of _ (by decide +kernel)) ggX3_measure_X3_placeInBlock
set_option maxRecDepth 20000 in
theorem ggX3_measure_X3_pointOf : GoodIn wsX3_measure wsX3_pointOf := goodIn_r _ [10, 11, 12, 13] (by decide +kernel) (by decide +kernel)
set_option maxRecDepth 20000 in
theorem gX3_measure_X3_pointOf : GoodIn wsX3_measure (va_wsS RX3 74 yX3_pointOf wsX3_pointOf) := goodIn_app (goodIn_of _ (by decide +kernel)) ggX3_measure_X3_pointOf
set_option maxRecDepth 20000 in
theorem ggX3_measure_X3_turnQuarter : GoodIn wsX3_measure wsX3_turnQuarter := goodIn_r _ [17, 18, 19, 20, 6, 21, 1, 29, 30, 31, 32] (by decide +kernel) (by decide +kernel)
set_option maxRecDepth 20000 in
theorem gX3_measure_X3_turnQuarter : GoodIn wsX3_measure (wsV RX3 77 RX3 yX3_turnQuarter wsX3_turnQuarter) := goodIn_app (goodIn_of _ (by decide +kernel)) ggX3_measure_X3_turnQuarter
set_option maxRecDepth 20000 in
theorem ggX3_measure_X3_levelOf : GoodIn wsX3_measure wsX3_levelOf := goodIn_r _ [24, 25, 26, 27, 28] (by decide +kernel) (by decide +kernel)
set_option maxRecDepth 20000 in
theorem gX3_measure_X3_levelOf : GoodIn wsX3_measure (va_wsS RX3 83 yX3_levelOf wsX3_levelOf) := goodIn_app (goodIn_of _ (by decide +kernel)) ggX3_measure_X3_levelOf
theorem dX3_measure_0 : decode cX3_measure 0 = .ok (.iconst 1, 1) := by decide +kernel
theorem dX3_measure_1 : decode cX3_measure 1 = .ok (.istore 5, 2) := by decide +kernel
theorem dX3_measure_3 : decode cX3_measure 3 = .ok (.iconst 0, 1) := by decide +kernel
theorem dX3_measure_4 : decode cX3_measure 4 = .ok (.istore 6, 2) := by decide +kernel
theorem dX3_measure_6 : decode cX3_measure 6 = .ok (.iload 6, 2) := by decide +kernel
theorem dX3_measure_8 : decode cX3_measure 8 = .ok (.iconst 4, 1) := by decide +kernel
theorem dX3_measure_9 : decode cX3_measure 9 = .ok (.if_icmp .ge 139, 3) := by decide +kernel
theorem dX3_measure_12 : decode cX3_measure 12 = .ok (.iconst 0, 1) := by decide +kernel
theorem dX3_measure_13 : decode cX3_measure 13 = .ok (.istore 7, 2) := by decide +kernel
theorem dX3_measure_15 : decode cX3_measure 15 = .ok (.iload 7, 2) := by decide +kernel
theorem dX3_measure_17 : decode cX3_measure 17 = .ok (.bipush 16, 2) := by decide +kernel
theorem dX3_measure_19 : decode cX3_measure 19 = .ok (.if_icmp .ge 45, 3) := by decide +kernel
theorem dX3_measure_22 : decode cX3_measure 22 = .ok (.iload 6, 2) := by decide +kernel
theorem dX3_measure_24 : decode cX3_measure 24 = .ok (.iload 7, 2) := by decide +kernel
theorem dX3_measure_26 : decode cX3_measure 26 = .ok (.invokestatic 71, 3) := by decide +kernel
theorem dX3_measure_29 : decode cX3_measure 29 = .ok (.istore 8, 2) := by decide +kernel
theorem dX3_measure_31 : decode cX3_measure 31 = .ok (.iload_n 2, 1) := by decide +kernel
theorem dX3_measure_32 : decode cX3_measure 32 = .ok (.iload 8, 2) := by decide +kernel
theorem dX3_measure_34 : decode cX3_measure 34 = .ok (.invokestatic 74, 3) := by decide +kernel
theorem dX3_measure_37 : decode cX3_measure 37 = .ok (.istore 9, 2) := by decide +kernel
theorem dX3_measure_39 : decode cX3_measure 39 = .ok (.aload_n 0, 1) := by decide +kernel
theorem dX3_measure_40 : decode cX3_measure 40 = .ok (.getfield 15, 3) := by decide +kernel
theorem dX3_measure_43 : decode cX3_measure 43 = .ok (.iload 7, 2) := by decide +kernel
theorem dX3_measure_45 : decode cX3_measure 45 = .ok (.aload_n 1, 1) := by decide +kernel
theorem dX3_measure_46 : decode cX3_measure 46 = .ok (.iload 9, 2) := by decide +kernel
theorem dX3_measure_48 : decode cX3_measure 48 = .ok (.iaload, 1) := by decide +kernel
theorem dX3_measure_49 : decode cX3_measure 49 = .ok (.aload_n 0, 1) := by decide +kernel
theorem dX3_measure_50 : decode cX3_measure 50 = .ok (.getfield 21, 3) := by decide +kernel
theorem dX3_measure_53 : decode cX3_measure 53 = .ok (.iload 8, 2) := by decide +kernel
theorem dX3_measure_55 : decode cX3_measure 55 = .ok (.iaload, 1) := by decide +kernel
theorem dX3_measure_56 : decode cX3_measure 56 = .ok (.isub, 1) := by decide +kernel
theorem dX3_measure_57 : decode cX3_measure 57 = .ok (.iastore, 1) := by decide +kernel
theorem dX3_measure_58 : decode cX3_measure 58 = .ok (.iinc 7 1, 3) := by decide +kernel
theorem dX3_measure_61 : decode cX3_measure 61 = .ok (.goto (-46), 3) := by decide +kernel
theorem dX3_measure_64 : decode cX3_measure 64 = .ok (.aload_n 0, 1) := by decide +kernel
theorem dX3_measure_65 : decode cX3_measure 65 = .ok (.invokevirtual 77, 3) := by decide +kernel
theorem dX3_measure_68 : decode cX3_measure 68 = .ok (.iload_n 2, 1) := by decide +kernel
theorem dX3_measure_69 : decode cX3_measure 69 = .ok (.bipush 64, 2) := by decide +kernel
theorem dX3_measure_71 : decode cX3_measure 71 = .ok (.imul, 1) := by decide +kernel
theorem dX3_measure_72 : decode cX3_measure 72 = .ok (.iload 6, 2) := by decide +kernel
theorem dX3_measure_74 : decode cX3_measure 74 = .ok (.bipush 16, 2) := by decide +kernel
theorem dX3_measure_76 : decode cX3_measure 76 = .ok (.imul, 1) := by decide +kernel
theorem dX3_measure_77 : decode cX3_measure 77 = .ok (.iadd, 1) := by decide +kernel
theorem dX3_measure_78 : decode cX3_measure 78 = .ok (.istore 7, 2) := by decide +kernel
theorem dX3_measure_80 : decode cX3_measure 80 = .ok (.iconst 0, 1) := by decide +kernel
theorem dX3_measure_81 : decode cX3_measure 81 = .ok (.istore 8, 2) := by decide +kernel
theorem dX3_measure_83 : decode cX3_measure 83 = .ok (.iload 8, 2) := by decide +kernel
theorem dX3_measure_85 : decode cX3_measure 85 = .ok (.bipush 16, 2) := by decide +kernel
theorem dX3_measure_87 : decode cX3_measure 87 = .ok (.if_icmp .ge 55, 3) := by decide +kernel
theorem dX3_measure_90 : decode cX3_measure 90 = .ok (.aload 4, 2) := by decide +kernel
theorem dX3_measure_92 : decode cX3_measure 92 = .ok (.iload 7, 2) := by decide +kernel
theorem dX3_measure_94 : decode cX3_measure 94 = .ok (.iload 8, 2) := by decide +kernel
theorem dX3_measure_96 : decode cX3_measure 96 = .ok (.iadd, 1) := by decide +kernel
theorem dX3_measure_97 : decode cX3_measure 97 = .ok (.aload_n 0, 1) := by decide +kernel
theorem dX3_measure_98 : decode cX3_measure 98 = .ok (.getfield 15, 3) := by decide +kernel
theorem dX3_measure_101 : decode cX3_measure 101 = .ok (.getstatic 80, 3) := by decide +kernel
theorem dX3_measure_104 : decode cX3_measure 104 = .ok (.iload 8, 2) := by decide +kernel
theorem dX3_measure_106 : decode cX3_measure 106 = .ok (.iaload, 1) := by decide +kernel
theorem dX3_measure_107 : decode cX3_measure 107 = .ok (.iaload, 1) := by decide +kernel
theorem dX3_measure_108 : decode cX3_measure 108 = .ok (.iload_n 3, 1) := by decide +kernel
theorem dX3_measure_109 : decode cX3_measure 109 = .ok (.invokestatic 83, 3) := by decide +kernel
theorem dX3_measure_112 : decode cX3_measure 112 = .ok (.iastore, 1) := by decide +kernel
theorem dX3_measure_113 : decode cX3_measure 113 = .ok (.iload 5, 2) := by decide +kernel
theorem dX3_measure_115 : decode cX3_measure 115 = .ok (.ifCond .eq 18, 3) := by decide +kernel
theorem dX3_measure_118 : decode cX3_measure 118 = .ok (.aload 4, 2) := by decide +kernel
theorem dX3_measure_120 : decode cX3_measure 120 = .ok (.iload 7, 2) := by decide +kernel
theorem dX3_measure_122 : decode cX3_measure 122 = .ok (.iload 8, 2) := by decide +kernel
theorem dX3_measure_124 : decode cX3_measure 124 = .ok (.iadd, 1) := by decide +kernel
theorem dX3_measure_125 : decode cX3_measure 125 = .ok (.iaload, 1) := by decide +kernel
theorem dX3_measure_126 : decode cX3_measure 126 = .ok (.ifCond .ne 7, 3) := by decide +kernel
theorem dX3_measure_129 : decode cX3_measure 129 = .ok (.iconst 1, 1) := by decide +kernel
theorem dX3_measure_130 : decode cX3_measure 130 = .ok (.goto 4, 3) := by decide +kernel
theorem dX3_measure_133 : decode cX3_measure 133 = .ok (.iconst 0, 1) := by decide +kernel
theorem dX3_measure_134 : decode cX3_measure 134 = .ok (.istore 5, 2) := by decide +kernel
theorem dX3_measure_136 : decode cX3_measure 136 = .ok (.iinc 8 1, 3) := by decide +kernel
theorem dX3_measure_139 : decode cX3_measure 139 = .ok (.goto (-56), 3) := by decide +kernel
theorem dX3_measure_142 : decode cX3_measure 142 = .ok (.iinc 6 1, 3) := by decide +kernel
theorem dX3_measure_145 : decode cX3_measure 145 = .ok (.goto (-139), 3) := by decide +kernel
theorem dX3_measure_148 : decode cX3_measure 148 = .ok (.iload 5, 2) := by decide +kernel
theorem dX3_measure_150 : decode cX3_measure 150 = .ok (.ireturn, 1) := by decide +kernel
theorem dX3_levelOf_0 : decode cX3_levelOf 0 = .ok (.iconst 4, 1) := by decide +kernel
theorem dX3_levelOf_1 : decode cX3_levelOf 1 = .ok (.iload_n 1, 1) := by decide +kernel
theorem dX3_levelOf_2 : decode cX3_levelOf 2 = .ok (.imul, 1) := by decide +kernel
theorem dX3_levelOf_3 : decode cX3_levelOf 3 = .ok (.istore_n 2, 1) := by decide +kernel
theorem dX3_levelOf_4 : decode cX3_levelOf 4 = .ok (.iload_n 2, 1) := by decide +kernel
theorem dX3_levelOf_5 : decode cX3_levelOf 5 = .ok (.iconst 1, 1) := by decide +kernel
theorem dX3_levelOf_6 : decode cX3_levelOf 6 = .ok (.if_icmp .ge 5, 3) := by decide +kernel
theorem dX3_levelOf_9 : decode cX3_levelOf 9 = .ok (.iconst 0, 1) := by decide +kernel
theorem dX3_levelOf_10 : decode cX3_levelOf 10 = .ok (.ireturn, 1) := by decide +kernel
theorem dX3_levelOf_11 : decode cX3_levelOf 11 = .ok (.iload_n 0, 1) := by decide +kernel
theorem dX3_levelOf_12 : decode cX3_levelOf 12 = .ok (.invokestatic 53, 3) := by decide +kernel
theorem dX3_levelOf_15 : decode cX3_levelOf 15 = .ok (.iload_n 2, 1) := by decide +kernel
theorem dX3_levelOf_16 : decode cX3_levelOf 16 = .ok (.iconst 3, 1) := by decide +kernel
theorem dX3_levelOf_17 : decode cX3_levelOf 17 = .ok (.idiv, 1) := by decide +kernel
theorem dX3_levelOf_18 : decode cX3_levelOf 18 = .ok (.iadd, 1) := by decide +kernel
theorem dX3_levelOf_19 : decode cX3_levelOf 19 = .ok (.iload_n 2, 1) := by decide +kernel
theorem dX3_levelOf_20 : decode cX3_levelOf 20 = .ok (.idiv, 1) := by decide +kernel
theorem dX3_levelOf_21 : decode cX3_levelOf 21 = .ok (.istore_n 3, 1) := by decide +kernel
theorem dX3_levelOf_22 : decode cX3_levelOf 22 = .ok (.iload_n 0, 1) := by decide +kernel
theorem dX3_levelOf_23 : decode cX3_levelOf 23 = .ok (.ifCond .ge 8, 3) := by decide +kernel
theorem dX3_levelOf_26 : decode cX3_levelOf 26 = .ok (.iload_n 3, 1) := by decide +kernel
theorem dX3_levelOf_27 : decode cX3_levelOf 27 = .ok (.ineg, 1) := by decide +kernel
theorem dX3_levelOf_28 : decode cX3_levelOf 28 = .ok (.goto 4, 3) := by decide +kernel
theorem dX3_levelOf_31 : decode cX3_levelOf 31 = .ok (.iload_n 3, 1) := by decide +kernel
theorem dX3_levelOf_32 : decode cX3_levelOf 32 = .ok (.ireturn, 1) := by decide +kernel
set_option maxRecDepth 20000 in
theorem ggX3_makeBlock_X3_turnQuarter : GoodIn wsX3_makeBlock wsX3_turnQuarter := goodIn_r _ [9, 10, 11, 12, 8, 13, 1, 25, 26, 27, 28] (by decide +kernel) (by decide +kernel)
set_option maxRecDepth 20000 in
theorem gX3_makeBlock_X3_turnQuarter : GoodIn wsX3_makeBlock (wsV RX3 77 RX3 yX3_turnQuarter wsX3_turnQuarter) := goodIn_app (goodIn_of _ (by decide +kernel)) ggX3_makeBlock_X3_turnQuarter
set_option maxRecDepth 20000 in
theorem ggX3_makeBlock_X3_placeInBlock : GoodIn wsX3_makeBlock wsX3_placeInBlock := goodIn_r _ [16] (by decide +kernel) (by decide +kernel)
set_option maxRecDepth 20000 in
theorem gX3_makeBlock_X3_placeInBlock : GoodIn wsX3_makeBlock (va_wsS RX3 71 yX3_placeInBlock wsX3_placeInBlock) := goodIn_app (goodIn_of _ (by decide +kernel)) ggX3_makeBlock_X3_placeInBlock
set_option maxRecDepth 20000 in
theorem ggX3_makeBlock_X3_pointOf : GoodIn wsX3_makeBlock wsX3_pointOf := goodIn_r _ [19, 20, 21, 22] (by decide +kernel) (by decide +kernel)
set_option maxRecDepth 20000 in
theorem gX3_makeBlock_X3_pointOf : GoodIn wsX3_makeBlock (va_wsS RX3 74 yX3_pointOf wsX3_pointOf) := goodIn_app (goodIn_of _ (by decide +kernel)) ggX3_makeBlock_X3_pointOf
set_option maxRecDepth 20000 in
theorem ggX3_makeBlock_X5_clip : GoodIn wsX3_makeBlock wsX5_clip := goodIn_r _ [24] (by decide +kernel) (by decide +kernel)
set_option maxRecDepth 20000 in
theorem gX3_makeBlock_X5_clip_n68 : GoodIn wsX3_makeBlock (wsX5_clip) := ggX3_makeBlock_X5_clip
theorem dX3_makeBlock_0 : decode cX3_makeBlock 0 = .ok (.iconst 0, 1) := by decide +kernel
theorem dX3_makeBlock_1 : decode cX3_makeBlock 1 = .ok (.istore 4, 2) := by decide +kernel
theorem dX3_makeBlock_3 : decode cX3_makeBlock 3 = .ok (.iload 4, 2) := by decide +kernel
theorem dX3_makeBlock_5 : decode cX3_makeBlock 5 = .ok (.iconst 4, 1) := by decide +kernel
theorem dX3_makeBlock_6 : decode cX3_makeBlock 6 = .ok (.if_icmp .ge 122, 3) := by decide +kernel
theorem dX3_makeBlock_9 : decode cX3_makeBlock 9 = .ok (.iload_n 1, 1) := by decide +kernel
theorem dX3_makeBlock_10 : decode cX3_makeBlock 10 = .ok (.bipush 64, 2) := by decide +kernel
theorem dX3_makeBlock_12 : decode cX3_makeBlock 12 = .ok (.imul, 1) := by decide +kernel
theorem dX3_makeBlock_13 : decode cX3_makeBlock 13 = .ok (.iload 4, 2) := by decide +kernel
theorem dX3_makeBlock_15 : decode cX3_makeBlock 15 = .ok (.bipush 16, 2) := by decide +kernel
theorem dX3_makeBlock_17 : decode cX3_makeBlock 17 = .ok (.imul, 1) := by decide +kernel
theorem dX3_makeBlock_18 : decode cX3_makeBlock 18 = .ok (.iadd, 1) := by decide +kernel
theorem dX3_makeBlock_19 : decode cX3_makeBlock 19 = .ok (.istore 5, 2) := by decide +kernel
theorem dX3_makeBlock_21 : decode cX3_makeBlock 21 = .ok (.iconst 0, 1) := by decide +kernel
theorem dX3_makeBlock_22 : decode cX3_makeBlock 22 = .ok (.istore 6, 2) := by decide +kernel
theorem dX3_makeBlock_24 : decode cX3_makeBlock 24 = .ok (.iload 6, 2) := by decide +kernel
theorem dX3_makeBlock_26 : decode cX3_makeBlock 26 = .ok (.bipush 16, 2) := by decide +kernel
theorem dX3_makeBlock_28 : decode cX3_makeBlock 28 = .ok (.if_icmp .ge 31, 3) := by decide +kernel
theorem dX3_makeBlock_31 : decode cX3_makeBlock 31 = .ok (.aload_n 0, 1) := by decide +kernel
theorem dX3_makeBlock_32 : decode cX3_makeBlock 32 = .ok (.getfield 15, 3) := by decide +kernel
theorem dX3_makeBlock_35 : decode cX3_makeBlock 35 = .ok (.getstatic 80, 3) := by decide +kernel
theorem dX3_makeBlock_38 : decode cX3_makeBlock 38 = .ok (.iload 6, 2) := by decide +kernel
theorem dX3_makeBlock_40 : decode cX3_makeBlock 40 = .ok (.iaload, 1) := by decide +kernel
theorem dX3_makeBlock_41 : decode cX3_makeBlock 41 = .ok (.aload_n 3, 1) := by decide +kernel
theorem dX3_makeBlock_42 : decode cX3_makeBlock 42 = .ok (.iload 5, 2) := by decide +kernel
theorem dX3_makeBlock_44 : decode cX3_makeBlock 44 = .ok (.iload 6, 2) := by decide +kernel
theorem dX3_makeBlock_46 : decode cX3_makeBlock 46 = .ok (.iadd, 1) := by decide +kernel
theorem dX3_makeBlock_47 : decode cX3_makeBlock 47 = .ok (.iaload, 1) := by decide +kernel
theorem dX3_makeBlock_48 : decode cX3_makeBlock 48 = .ok (.iconst 4, 1) := by decide +kernel
theorem dX3_makeBlock_49 : decode cX3_makeBlock 49 = .ok (.imul, 1) := by decide +kernel
theorem dX3_makeBlock_50 : decode cX3_makeBlock 50 = .ok (.iload_n 2, 1) := by decide +kernel
theorem dX3_makeBlock_51 : decode cX3_makeBlock 51 = .ok (.imul, 1) := by decide +kernel
theorem dX3_makeBlock_52 : decode cX3_makeBlock 52 = .ok (.iastore, 1) := by decide +kernel
theorem dX3_makeBlock_53 : decode cX3_makeBlock 53 = .ok (.iinc 6 1, 3) := by decide +kernel
theorem dX3_makeBlock_56 : decode cX3_makeBlock 56 = .ok (.goto (-32), 3) := by decide +kernel
theorem dX3_makeBlock_59 : decode cX3_makeBlock 59 = .ok (.aload_n 0, 1) := by decide +kernel
theorem dX3_makeBlock_60 : decode cX3_makeBlock 60 = .ok (.invokevirtual 77, 3) := by decide +kernel
theorem dX3_makeBlock_63 : decode cX3_makeBlock 63 = .ok (.iconst 0, 1) := by decide +kernel
theorem dX3_makeBlock_64 : decode cX3_makeBlock 64 = .ok (.istore 6, 2) := by decide +kernel
theorem dX3_makeBlock_66 : decode cX3_makeBlock 66 = .ok (.iload 6, 2) := by decide +kernel
theorem dX3_makeBlock_68 : decode cX3_makeBlock 68 = .ok (.bipush 16, 2) := by decide +kernel
theorem dX3_makeBlock_70 : decode cX3_makeBlock 70 = .ok (.if_icmp .ge 52, 3) := by decide +kernel
theorem dX3_makeBlock_73 : decode cX3_makeBlock 73 = .ok (.iload 4, 2) := by decide +kernel
theorem dX3_makeBlock_75 : decode cX3_makeBlock 75 = .ok (.iload 6, 2) := by decide +kernel
theorem dX3_makeBlock_77 : decode cX3_makeBlock 77 = .ok (.invokestatic 71, 3) := by decide +kernel
theorem dX3_makeBlock_80 : decode cX3_makeBlock 80 = .ok (.istore 7, 2) := by decide +kernel
theorem dX3_makeBlock_82 : decode cX3_makeBlock 82 = .ok (.aload_n 0, 1) := by decide +kernel
theorem dX3_makeBlock_83 : decode cX3_makeBlock 83 = .ok (.getfield 18, 3) := by decide +kernel
theorem dX3_makeBlock_86 : decode cX3_makeBlock 86 = .ok (.iload_n 1, 1) := by decide +kernel
theorem dX3_makeBlock_87 : decode cX3_makeBlock 87 = .ok (.iload 7, 2) := by decide +kernel
theorem dX3_makeBlock_89 : decode cX3_makeBlock 89 = .ok (.invokestatic 74, 3) := by decide +kernel
theorem dX3_makeBlock_92 : decode cX3_makeBlock 92 = .ok (.aload_n 0, 1) := by decide +kernel
theorem dX3_makeBlock_93 : decode cX3_makeBlock 93 = .ok (.getfield 21, 3) := by decide +kernel
theorem dX3_makeBlock_96 : decode cX3_makeBlock 96 = .ok (.iload 7, 2) := by decide +kernel
theorem dX3_makeBlock_98 : decode cX3_makeBlock 98 = .ok (.iaload, 1) := by decide +kernel
theorem dX3_makeBlock_99 : decode cX3_makeBlock 99 = .ok (.aload_n 0, 1) := by decide +kernel
theorem dX3_makeBlock_100 : decode cX3_makeBlock 100 = .ok (.getfield 15, 3) := by decide +kernel
theorem dX3_makeBlock_103 : decode cX3_makeBlock 103 = .ok (.iload 6, 2) := by decide +kernel
theorem dX3_makeBlock_105 : decode cX3_makeBlock 105 = .ok (.iaload, 1) := by decide +kernel
theorem dX3_makeBlock_106 : decode cX3_makeBlock 106 = .ok (.bipush 8, 2) := by decide +kernel
theorem dX3_makeBlock_108 : decode cX3_makeBlock 108 = .ok (.iadd, 1) := by decide +kernel
theorem dX3_makeBlock_109 : decode cX3_makeBlock 109 = .ok (.iconst 4, 1) := by decide +kernel
theorem dX3_makeBlock_110 : decode cX3_makeBlock 110 = .ok (.ishr, 1) := by decide +kernel
theorem dX3_makeBlock_111 : decode cX3_makeBlock 111 = .ok (.iadd, 1) := by decide +kernel
theorem dX3_makeBlock_112 : decode cX3_makeBlock 112 = .ok (.invokestatic 68, 3) := by decide +kernel
theorem dX3_makeBlock_115 : decode cX3_makeBlock 115 = .ok (.iastore, 1) := by decide +kernel
theorem dX3_makeBlock_116 : decode cX3_makeBlock 116 = .ok (.iinc 6 1, 3) := by decide +kernel
theorem dX3_makeBlock_119 : decode cX3_makeBlock 119 = .ok (.goto (-53), 3) := by decide +kernel
theorem dX3_makeBlock_122 : decode cX3_makeBlock 122 = .ok (.iinc 4 1, 3) := by decide +kernel
theorem dX3_makeBlock_125 : decode cX3_makeBlock 125 = .ok (.goto (-122), 3) := by decide +kernel
theorem dX3_makeBlock_128 : decode cX3_makeBlock 128 = .ok (.return_, 1) := by decide +kernel
set_option maxRecDepth 20000 in
theorem ggX3_makeForetold_X3_pointOf : GoodIn wsX3_makeForetold wsX3_pointOf := goodIn_r _ [6, 7, 8, 9] (by decide +kernel) (by decide +kernel)
set_option maxRecDepth 20000 in
theorem gX3_makeForetold_X3_pointOf : GoodIn wsX3_makeForetold (va_wsS RX3 74 yX3_pointOf wsX3_pointOf) := goodIn_app (goodIn_of _ (by decide +kernel)) ggX3_makeForetold_X3_pointOf
theorem dX3_makeForetold_0 : decode cX3_makeForetold 0 = .ok (.iconst 0, 1) := by decide +kernel
theorem dX3_makeForetold_1 : decode cX3_makeForetold 1 = .ok (.istore_n 2, 1) := by decide +kernel
theorem dX3_makeForetold_2 : decode cX3_makeForetold 2 = .ok (.iload_n 2, 1) := by decide +kernel
theorem dX3_makeForetold_3 : decode cX3_makeForetold 3 = .ok (.bipush 64, 2) := by decide +kernel
theorem dX3_makeForetold_5 : decode cX3_makeForetold 5 = .ok (.if_icmp .ge 25, 3) := by decide +kernel
theorem dX3_makeForetold_8 : decode cX3_makeForetold 8 = .ok (.aload_n 0, 1) := by decide +kernel
theorem dX3_makeForetold_9 : decode cX3_makeForetold 9 = .ok (.getfield 18, 3) := by decide +kernel
theorem dX3_makeForetold_12 : decode cX3_makeForetold 12 = .ok (.iload_n 1, 1) := by decide +kernel
theorem dX3_makeForetold_13 : decode cX3_makeForetold 13 = .ok (.iload_n 2, 1) := by decide +kernel
theorem dX3_makeForetold_14 : decode cX3_makeForetold 14 = .ok (.invokestatic 74, 3) := by decide +kernel
theorem dX3_makeForetold_17 : decode cX3_makeForetold 17 = .ok (.aload_n 0, 1) := by decide +kernel
theorem dX3_makeForetold_18 : decode cX3_makeForetold 18 = .ok (.getfield 21, 3) := by decide +kernel
theorem dX3_makeForetold_21 : decode cX3_makeForetold 21 = .ok (.iload_n 2, 1) := by decide +kernel
theorem dX3_makeForetold_22 : decode cX3_makeForetold 22 = .ok (.iaload, 1) := by decide +kernel
theorem dX3_makeForetold_23 : decode cX3_makeForetold 23 = .ok (.iastore, 1) := by decide +kernel
theorem dX3_makeForetold_24 : decode cX3_makeForetold 24 = .ok (.iinc 2 1, 3) := by decide +kernel
theorem dX3_makeForetold_27 : decode cX3_makeForetold 27 = .ok (.goto (-25), 3) := by decide +kernel
theorem dX3_makeForetold_30 : decode cX3_makeForetold 30 = .ok (.return_, 1) := by decide +kernel
theorem dX3_placeInBlock_0 : decode cX3_placeInBlock 0 = .ok (.iload_n 0, 1) := by decide +kernel
theorem dX3_placeInBlock_1 : decode cX3_placeInBlock 1 = .ok (.iconst 2, 1) := by decide +kernel
theorem dX3_placeInBlock_2 : decode cX3_placeInBlock 2 = .ok (.idiv, 1) := by decide +kernel
theorem dX3_placeInBlock_3 : decode cX3_placeInBlock 3 = .ok (.iconst 4, 1) := by decide +kernel
theorem dX3_placeInBlock_4 : decode cX3_placeInBlock 4 = .ok (.imul, 1) := by decide +kernel
theorem dX3_placeInBlock_5 : decode cX3_placeInBlock 5 = .ok (.iload_n 1, 1) := by decide +kernel
theorem dX3_placeInBlock_6 : decode cX3_placeInBlock 6 = .ok (.iconst 4, 1) := by decide +kernel
theorem dX3_placeInBlock_7 : decode cX3_placeInBlock 7 = .ok (.idiv, 1) := by decide +kernel
theorem dX3_placeInBlock_8 : decode cX3_placeInBlock 8 = .ok (.iadd, 1) := by decide +kernel
theorem dX3_placeInBlock_9 : decode cX3_placeInBlock 9 = .ok (.istore_n 2, 1) := by decide +kernel
theorem dX3_placeInBlock_10 : decode cX3_placeInBlock 10 = .ok (.iload_n 0, 1) := by decide +kernel
theorem dX3_placeInBlock_11 : decode cX3_placeInBlock 11 = .ok (.iconst 2, 1) := by decide +kernel
theorem dX3_placeInBlock_12 : decode cX3_placeInBlock 12 = .ok (.irem, 1) := by decide +kernel
theorem dX3_placeInBlock_13 : decode cX3_placeInBlock 13 = .ok (.iconst 4, 1) := by decide +kernel
theorem dX3_placeInBlock_14 : decode cX3_placeInBlock 14 = .ok (.imul, 1) := by decide +kernel
theorem dX3_placeInBlock_15 : decode cX3_placeInBlock 15 = .ok (.iload_n 1, 1) := by decide +kernel
theorem dX3_placeInBlock_16 : decode cX3_placeInBlock 16 = .ok (.iconst 4, 1) := by decide +kernel
theorem dX3_placeInBlock_17 : decode cX3_placeInBlock 17 = .ok (.irem, 1) := by decide +kernel
theorem dX3_placeInBlock_18 : decode cX3_placeInBlock 18 = .ok (.iadd, 1) := by decide +kernel
theorem dX3_placeInBlock_19 : decode cX3_placeInBlock 19 = .ok (.istore_n 3, 1) := by decide +kernel
theorem dX3_placeInBlock_20 : decode cX3_placeInBlock 20 = .ok (.iload_n 2, 1) := by decide +kernel
theorem dX3_placeInBlock_21 : decode cX3_placeInBlock 21 = .ok (.bipush 8, 2) := by decide +kernel
theorem dX3_placeInBlock_23 : decode cX3_placeInBlock 23 = .ok (.imul, 1) := by decide +kernel
theorem dX3_placeInBlock_24 : decode cX3_placeInBlock 24 = .ok (.iload_n 3, 1) := by decide +kernel
theorem dX3_placeInBlock_25 : decode cX3_placeInBlock 25 = .ok (.iadd, 1) := by decide +kernel
theorem dX3_placeInBlock_26 : decode cX3_placeInBlock 26 = .ok (.ireturn, 1) := by decide +kernel
set_option maxRecDepth 20000 in
theorem ggX3_pointOf_X5_firstPointOf : GoodIn wsX3_pointOf wsX5_firstPointOf := goodIn_r _ [3] (by decide +kernel) (by decide +kernel)
set_option maxRecDepth 20000 in
theorem gX3_pointOf_X5_firstPointOf_n49 : GoodIn wsX3_pointOf (wsX5_firstPointOf) := ggX3_pointOf_X5_firstPointOf
theorem dX3_pointOf_0 : decode cX3_pointOf 0 = .ok (.iload_n 0, 1) := by decide +kernel
theorem dX3_pointOf_1 : decode cX3_pointOf 1 = .ok (.invokestatic 49, 3) := by decide +kernel
theorem dX3_pointOf_4 : decode cX3_pointOf 4 = .ok (.iload_n 1, 1) := by decide +kernel
theorem dX3_pointOf_5 : decode cX3_pointOf 5 = .ok (.bipush 8, 2) := by decide +kernel
theorem dX3_pointOf_7 : decode cX3_pointOf 7 = .ok (.idiv, 1) := by decide +kernel
theorem dX3_pointOf_8 : decode cX3_pointOf 8 = .ok (.bipush 32, 2) := by decide +kernel
theorem dX3_pointOf_10 : decode cX3_pointOf 10 = .ok (.imul, 1) := by decide +kernel
theorem dX3_pointOf_11 : decode cX3_pointOf 11 = .ok (.iadd, 1) := by decide +kernel
theorem dX3_pointOf_12 : decode cX3_pointOf 12 = .ok (.iload_n 1, 1) := by decide +kernel
theorem dX3_pointOf_13 : decode cX3_pointOf 13 = .ok (.bipush 8, 2) := by decide +kernel
theorem dX3_pointOf_15 : decode cX3_pointOf 15 = .ok (.irem, 1) := by decide +kernel
theorem dX3_pointOf_16 : decode cX3_pointOf 16 = .ok (.iadd, 1) := by decide +kernel
theorem dX3_pointOf_17 : decode cX3_pointOf 17 = .ok (.ireturn, 1) := by decide +kernel
set_option maxRecDepth 20000 in
theorem ggX3_turnQuarter_X3_turnFour : GoodIn wsX3_turnQuarter wsX3_turnFour := goodIn_r _ [5, 6, 7, 8, 9, 10] (by decide +kernel) (by decide +kernel)
set_option maxRecDepth 20000 in
theorem gX3_turnQuarter_X3_turnFour : GoodIn wsX3_turnQuarter (wsV RX3 86 RX3 yX3_turnFour wsX3_turnFour) := goodIn_app (goodIn_of _ (by decide +kernel)) ggX3_turnQuarter_X3_turnFour
theorem dX3_turnQuarter_0 : decode cX3_turnQuarter 0 = .ok (.iconst 0, 1) := by decide +kernel
theorem dX3_turnQuarter_1 : decode cX3_turnQuarter 1 = .ok (.istore_n 1, 1) := by decide +kernel
theorem dX3_turnQuarter_2 : decode cX3_turnQuarter 2 = .ok (.iload_n 1, 1) := by decide +kernel
theorem dX3_turnQuarter_3 : decode cX3_turnQuarter 3 = .ok (.iconst 4, 1) := by decide +kernel
theorem dX3_turnQuarter_4 : decode cX3_turnQuarter 4 = .ok (.if_icmp .ge 15, 3) := by decide +kernel
theorem dX3_turnQuarter_7 : decode cX3_turnQuarter 7 = .ok (.aload_n 0, 1) := by decide +kernel
theorem dX3_turnQuarter_8 : decode cX3_turnQuarter 8 = .ok (.iload_n 1, 1) := by decide +kernel
theorem dX3_turnQuarter_9 : decode cX3_turnQuarter 9 = .ok (.iconst 4, 1) := by decide +kernel
theorem dX3_turnQuarter_10 : decode cX3_turnQuarter 10 = .ok (.invokevirtual 86, 3) := by decide +kernel
theorem dX3_turnQuarter_13 : decode cX3_turnQuarter 13 = .ok (.iinc 1 1, 3) := by decide +kernel
theorem dX3_turnQuarter_16 : decode cX3_turnQuarter 16 = .ok (.goto (-14), 3) := by decide +kernel
theorem dX3_turnQuarter_19 : decode cX3_turnQuarter 19 = .ok (.iconst 0, 1) := by decide +kernel
theorem dX3_turnQuarter_20 : decode cX3_turnQuarter 20 = .ok (.istore_n 1, 1) := by decide +kernel
theorem dX3_turnQuarter_21 : decode cX3_turnQuarter 21 = .ok (.iload_n 1, 1) := by decide +kernel
theorem dX3_turnQuarter_22 : decode cX3_turnQuarter 22 = .ok (.iconst 4, 1) := by decide +kernel
theorem dX3_turnQuarter_23 : decode cX3_turnQuarter 23 = .ok (.if_icmp .ge 17, 3) := by decide +kernel
theorem dX3_turnQuarter_26 : decode cX3_turnQuarter 26 = .ok (.aload_n 0, 1) := by decide +kernel
theorem dX3_turnQuarter_27 : decode cX3_turnQuarter 27 = .ok (.iload_n 1, 1) := by decide +kernel
theorem dX3_turnQuarter_28 : decode cX3_turnQuarter 28 = .ok (.iconst 4, 1) := by decide +kernel
theorem dX3_turnQuarter_29 : decode cX3_turnQuarter 29 = .ok (.imul, 1) := by decide +kernel
theorem dX3_turnQuarter_30 : decode cX3_turnQuarter 30 = .ok (.iconst 1, 1) := by decide +kernel
theorem dX3_turnQuarter_31 : decode cX3_turnQuarter 31 = .ok (.invokevirtual 86, 3) := by decide +kernel
theorem dX3_turnQuarter_34 : decode cX3_turnQuarter 34 = .ok (.iinc 1 1, 3) := by decide +kernel
theorem dX3_turnQuarter_37 : decode cX3_turnQuarter 37 = .ok (.goto (-16), 3) := by decide +kernel
theorem dX3_turnQuarter_40 : decode cX3_turnQuarter 40 = .ok (.return_, 1) := by decide +kernel
theorem dX3_turnFour_0 : decode cX3_turnFour 0 = .ok (.aload_n 0, 1) := by decide +kernel
theorem dX3_turnFour_1 : decode cX3_turnFour 1 = .ok (.getfield 15, 3) := by decide +kernel
theorem dX3_turnFour_4 : decode cX3_turnFour 4 = .ok (.iload_n 1, 1) := by decide +kernel
theorem dX3_turnFour_5 : decode cX3_turnFour 5 = .ok (.iaload, 1) := by decide +kernel
theorem dX3_turnFour_6 : decode cX3_turnFour 6 = .ok (.istore_n 3, 1) := by decide +kernel
theorem dX3_turnFour_7 : decode cX3_turnFour 7 = .ok (.aload_n 0, 1) := by decide +kernel
theorem dX3_turnFour_8 : decode cX3_turnFour 8 = .ok (.getfield 15, 3) := by decide +kernel
theorem dX3_turnFour_11 : decode cX3_turnFour 11 = .ok (.iload_n 1, 1) := by decide +kernel
theorem dX3_turnFour_12 : decode cX3_turnFour 12 = .ok (.iload_n 2, 1) := by decide +kernel
theorem dX3_turnFour_13 : decode cX3_turnFour 13 = .ok (.iadd, 1) := by decide +kernel
theorem dX3_turnFour_14 : decode cX3_turnFour 14 = .ok (.iaload, 1) := by decide +kernel
theorem dX3_turnFour_15 : decode cX3_turnFour 15 = .ok (.istore 4, 2) := by decide +kernel
theorem dX3_turnFour_17 : decode cX3_turnFour 17 = .ok (.aload_n 0, 1) := by decide +kernel
theorem dX3_turnFour_18 : decode cX3_turnFour 18 = .ok (.getfield 15, 3) := by decide +kernel
theorem dX3_turnFour_21 : decode cX3_turnFour 21 = .ok (.iload_n 1, 1) := by decide +kernel
theorem dX3_turnFour_22 : decode cX3_turnFour 22 = .ok (.iconst 2, 1) := by decide +kernel
theorem dX3_turnFour_23 : decode cX3_turnFour 23 = .ok (.iload_n 2, 1) := by decide +kernel
theorem dX3_turnFour_24 : decode cX3_turnFour 24 = .ok (.imul, 1) := by decide +kernel
theorem dX3_turnFour_25 : decode cX3_turnFour 25 = .ok (.iadd, 1) := by decide +kernel
theorem dX3_turnFour_26 : decode cX3_turnFour 26 = .ok (.iaload, 1) := by decide +kernel
theorem dX3_turnFour_27 : decode cX3_turnFour 27 = .ok (.istore 5, 2) := by decide +kernel
theorem dX3_turnFour_29 : decode cX3_turnFour 29 = .ok (.aload_n 0, 1) := by decide +kernel
theorem dX3_turnFour_30 : decode cX3_turnFour 30 = .ok (.getfield 15, 3) := by decide +kernel
theorem dX3_turnFour_33 : decode cX3_turnFour 33 = .ok (.iload_n 1, 1) := by decide +kernel
theorem dX3_turnFour_34 : decode cX3_turnFour 34 = .ok (.iconst 3, 1) := by decide +kernel
theorem dX3_turnFour_35 : decode cX3_turnFour 35 = .ok (.iload_n 2, 1) := by decide +kernel
theorem dX3_turnFour_36 : decode cX3_turnFour 36 = .ok (.imul, 1) := by decide +kernel
theorem dX3_turnFour_37 : decode cX3_turnFour 37 = .ok (.iadd, 1) := by decide +kernel
theorem dX3_turnFour_38 : decode cX3_turnFour 38 = .ok (.iaload, 1) := by decide +kernel
theorem dX3_turnFour_39 : decode cX3_turnFour 39 = .ok (.istore 6, 2) := by decide +kernel
theorem dX3_turnFour_41 : decode cX3_turnFour 41 = .ok (.aload_n 0, 1) := by decide +kernel
theorem dX3_turnFour_42 : decode cX3_turnFour 42 = .ok (.getfield 15, 3) := by decide +kernel
theorem dX3_turnFour_45 : decode cX3_turnFour 45 = .ok (.iload_n 1, 1) := by decide +kernel
theorem dX3_turnFour_46 : decode cX3_turnFour 46 = .ok (.iload_n 3, 1) := by decide +kernel
theorem dX3_turnFour_47 : decode cX3_turnFour 47 = .ok (.iload 4, 2) := by decide +kernel
theorem dX3_turnFour_49 : decode cX3_turnFour 49 = .ok (.iadd, 1) := by decide +kernel
theorem dX3_turnFour_50 : decode cX3_turnFour 50 = .ok (.iload 5, 2) := by decide +kernel
theorem dX3_turnFour_52 : decode cX3_turnFour 52 = .ok (.iadd, 1) := by decide +kernel
theorem dX3_turnFour_53 : decode cX3_turnFour 53 = .ok (.iload 6, 2) := by decide +kernel
theorem dX3_turnFour_55 : decode cX3_turnFour 55 = .ok (.iadd, 1) := by decide +kernel
theorem dX3_turnFour_56 : decode cX3_turnFour 56 = .ok (.iastore, 1) := by decide +kernel
theorem dX3_turnFour_57 : decode cX3_turnFour 57 = .ok (.aload_n 0, 1) := by decide +kernel
theorem dX3_turnFour_58 : decode cX3_turnFour 58 = .ok (.getfield 15, 3) := by decide +kernel
theorem dX3_turnFour_61 : decode cX3_turnFour 61 = .ok (.iload_n 1, 1) := by decide +kernel
theorem dX3_turnFour_62 : decode cX3_turnFour 62 = .ok (.iload_n 2, 1) := by decide +kernel
theorem dX3_turnFour_63 : decode cX3_turnFour 63 = .ok (.iadd, 1) := by decide +kernel
theorem dX3_turnFour_64 : decode cX3_turnFour 64 = .ok (.iload_n 3, 1) := by decide +kernel
theorem dX3_turnFour_65 : decode cX3_turnFour 65 = .ok (.iload 4, 2) := by decide +kernel
theorem dX3_turnFour_67 : decode cX3_turnFour 67 = .ok (.iadd, 1) := by decide +kernel
theorem dX3_turnFour_68 : decode cX3_turnFour 68 = .ok (.iload 5, 2) := by decide +kernel
theorem dX3_turnFour_70 : decode cX3_turnFour 70 = .ok (.isub, 1) := by decide +kernel
theorem dX3_turnFour_71 : decode cX3_turnFour 71 = .ok (.iload 6, 2) := by decide +kernel
theorem dX3_turnFour_73 : decode cX3_turnFour 73 = .ok (.isub, 1) := by decide +kernel
theorem dX3_turnFour_74 : decode cX3_turnFour 74 = .ok (.iastore, 1) := by decide +kernel
theorem dX3_turnFour_75 : decode cX3_turnFour 75 = .ok (.aload_n 0, 1) := by decide +kernel
theorem dX3_turnFour_76 : decode cX3_turnFour 76 = .ok (.getfield 15, 3) := by decide +kernel
theorem dX3_turnFour_79 : decode cX3_turnFour 79 = .ok (.iload_n 1, 1) := by decide +kernel
theorem dX3_turnFour_80 : decode cX3_turnFour 80 = .ok (.iconst 2, 1) := by decide +kernel
theorem dX3_turnFour_81 : decode cX3_turnFour 81 = .ok (.iload_n 2, 1) := by decide +kernel
theorem dX3_turnFour_82 : decode cX3_turnFour 82 = .ok (.imul, 1) := by decide +kernel
theorem dX3_turnFour_83 : decode cX3_turnFour 83 = .ok (.iadd, 1) := by decide +kernel
theorem dX3_turnFour_84 : decode cX3_turnFour 84 = .ok (.iload_n 3, 1) := by decide +kernel
theorem dX3_turnFour_85 : decode cX3_turnFour 85 = .ok (.iload 4, 2) := by decide +kernel
theorem dX3_turnFour_87 : decode cX3_turnFour 87 = .ok (.isub, 1) := by decide +kernel
theorem dX3_turnFour_88 : decode cX3_turnFour 88 = .ok (.iload 5, 2) := by decide +kernel
theorem dX3_turnFour_90 : decode cX3_turnFour 90 = .ok (.isub, 1) := by decide +kernel
theorem dX3_turnFour_91 : decode cX3_turnFour 91 = .ok (.iload 6, 2) := by decide +kernel
theorem dX3_turnFour_93 : decode cX3_turnFour 93 = .ok (.iadd, 1) := by decide +kernel
theorem dX3_turnFour_94 : decode cX3_turnFour 94 = .ok (.iastore, 1) := by decide +kernel
theorem dX3_turnFour_95 : decode cX3_turnFour 95 = .ok (.aload_n 0, 1) := by decide +kernel
theorem dX3_turnFour_96 : decode cX3_turnFour 96 = .ok (.getfield 15, 3) := by decide +kernel
theorem dX3_turnFour_99 : decode cX3_turnFour 99 = .ok (.iload_n 1, 1) := by decide +kernel
theorem dX3_turnFour_100 : decode cX3_turnFour 100 = .ok (.iconst 3, 1) := by decide +kernel
theorem dX3_turnFour_101 : decode cX3_turnFour 101 = .ok (.iload_n 2, 1) := by decide +kernel
theorem dX3_turnFour_102 : decode cX3_turnFour 102 = .ok (.imul, 1) := by decide +kernel
theorem dX3_turnFour_103 : decode cX3_turnFour 103 = .ok (.iadd, 1) := by decide +kernel
theorem dX3_turnFour_104 : decode cX3_turnFour 104 = .ok (.iload_n 3, 1) := by decide +kernel
theorem dX3_turnFour_105 : decode cX3_turnFour 105 = .ok (.iload 4, 2) := by decide +kernel
theorem dX3_turnFour_107 : decode cX3_turnFour 107 = .ok (.isub, 1) := by decide +kernel
theorem dX3_turnFour_108 : decode cX3_turnFour 108 = .ok (.iload 5, 2) := by decide +kernel
theorem dX3_turnFour_110 : decode cX3_turnFour 110 = .ok (.iadd, 1) := by decide +kernel
theorem dX3_turnFour_111 : decode cX3_turnFour 111 = .ok (.iload 6, 2) := by decide +kernel
theorem dX3_turnFour_113 : decode cX3_turnFour 113 = .ok (.isub, 1) := by decide +kernel
theorem dX3_turnFour_114 : decode cX3_turnFour 114 = .ok (.iastore, 1) := by decide +kernel
theorem dX3_turnFour_115 : decode cX3_turnFour 115 = .ok (.return_, 1) := by decide +kernel
set_option maxRecDepth 20000 in
theorem ggX3_smooth_X3_smoothAcross : GoodIn wsX3_smooth wsX3_smoothAcross := goodIn_r _ [5, 6, 7, 8, 9, 10, 11, 12, 13, 14] (by decide +kernel) (by decide +kernel)
set_option maxRecDepth 20000 in
theorem gX3_smooth_X3_smoothAcross : GoodIn wsX3_smooth (wsV RX3 90 RX3 yX3_smoothAcross wsX3_smoothAcross) := goodIn_app (goodIn_of _ (by decide +kernel)) ggX3_smooth_X3_smoothAcross
theorem dX3_smooth_0 : decode cX3_smooth 0 = .ok (.bipush 8, 2) := by decide +kernel
theorem dX3_smooth_2 : decode cX3_smooth 2 = .ok (.istore_n 2, 1) := by decide +kernel
theorem dX3_smooth_3 : decode cX3_smooth 3 = .ok (.iload_n 2, 1) := by decide +kernel
theorem dX3_smooth_4 : decode cX3_smooth 4 = .ok (.bipush 32, 2) := by decide +kernel
theorem dX3_smooth_6 : decode cX3_smooth 6 = .ok (.if_icmp .ge 35, 3) := by decide +kernel
theorem dX3_smooth_9 : decode cX3_smooth 9 = .ok (.iconst 0, 1) := by decide +kernel
theorem dX3_smooth_10 : decode cX3_smooth 10 = .ok (.istore_n 3, 1) := by decide +kernel
theorem dX3_smooth_11 : decode cX3_smooth 11 = .ok (.iload_n 3, 1) := by decide +kernel
theorem dX3_smooth_12 : decode cX3_smooth 12 = .ok (.bipush 24, 2) := by decide +kernel
theorem dX3_smooth_14 : decode cX3_smooth 14 = .ok (.if_icmp .ge 21, 3) := by decide +kernel
theorem dX3_smooth_17 : decode cX3_smooth 17 = .ok (.aload_n 0, 1) := by decide +kernel
theorem dX3_smooth_18 : decode cX3_smooth 18 = .ok (.iload_n 3, 1) := by decide +kernel
theorem dX3_smooth_19 : decode cX3_smooth 19 = .ok (.bipush 32, 2) := by decide +kernel
theorem dX3_smooth_21 : decode cX3_smooth 21 = .ok (.imul, 1) := by decide +kernel
theorem dX3_smooth_22 : decode cX3_smooth 22 = .ok (.iload_n 2, 1) := by decide +kernel
theorem dX3_smooth_23 : decode cX3_smooth 23 = .ok (.iadd, 1) := by decide +kernel
theorem dX3_smooth_24 : decode cX3_smooth 24 = .ok (.iconst 1, 1) := by decide +kernel
theorem dX3_smooth_25 : decode cX3_smooth 25 = .ok (.iload_n 1, 1) := by decide +kernel
theorem dX3_smooth_26 : decode cX3_smooth 26 = .ok (.invokevirtual 90, 3) := by decide +kernel
theorem dX3_smooth_29 : decode cX3_smooth 29 = .ok (.iinc 3 1, 3) := by decide +kernel
theorem dX3_smooth_32 : decode cX3_smooth 32 = .ok (.goto (-21), 3) := by decide +kernel
theorem dX3_smooth_35 : decode cX3_smooth 35 = .ok (.iinc 2 8, 3) := by decide +kernel
theorem dX3_smooth_38 : decode cX3_smooth 38 = .ok (.goto (-35), 3) := by decide +kernel
theorem dX3_smooth_41 : decode cX3_smooth 41 = .ok (.bipush 8, 2) := by decide +kernel
theorem dX3_smooth_43 : decode cX3_smooth 43 = .ok (.istore_n 2, 1) := by decide +kernel
theorem dX3_smooth_44 : decode cX3_smooth 44 = .ok (.iload_n 2, 1) := by decide +kernel
theorem dX3_smooth_45 : decode cX3_smooth 45 = .ok (.bipush 24, 2) := by decide +kernel
theorem dX3_smooth_47 : decode cX3_smooth 47 = .ok (.if_icmp .ge 36, 3) := by decide +kernel
theorem dX3_smooth_50 : decode cX3_smooth 50 = .ok (.iconst 0, 1) := by decide +kernel
theorem dX3_smooth_51 : decode cX3_smooth 51 = .ok (.istore_n 3, 1) := by decide +kernel
theorem dX3_smooth_52 : decode cX3_smooth 52 = .ok (.iload_n 3, 1) := by decide +kernel
theorem dX3_smooth_53 : decode cX3_smooth 53 = .ok (.bipush 32, 2) := by decide +kernel
theorem dX3_smooth_55 : decode cX3_smooth 55 = .ok (.if_icmp .ge 22, 3) := by decide +kernel
theorem dX3_smooth_58 : decode cX3_smooth 58 = .ok (.aload_n 0, 1) := by decide +kernel
theorem dX3_smooth_59 : decode cX3_smooth 59 = .ok (.iload_n 2, 1) := by decide +kernel
theorem dX3_smooth_60 : decode cX3_smooth 60 = .ok (.bipush 32, 2) := by decide +kernel
theorem dX3_smooth_62 : decode cX3_smooth 62 = .ok (.imul, 1) := by decide +kernel
theorem dX3_smooth_63 : decode cX3_smooth 63 = .ok (.iload_n 3, 1) := by decide +kernel
theorem dX3_smooth_64 : decode cX3_smooth 64 = .ok (.iadd, 1) := by decide +kernel
theorem dX3_smooth_65 : decode cX3_smooth 65 = .ok (.bipush 32, 2) := by decide +kernel
theorem dX3_smooth_67 : decode cX3_smooth 67 = .ok (.iload_n 1, 1) := by decide +kernel
theorem dX3_smooth_68 : decode cX3_smooth 68 = .ok (.invokevirtual 90, 3) := by decide +kernel
theorem dX3_smooth_71 : decode cX3_smooth 71 = .ok (.iinc 3 1, 3) := by decide +kernel
theorem dX3_smooth_74 : decode cX3_smooth 74 = .ok (.goto (-22), 3) := by decide +kernel
theorem dX3_smooth_77 : decode cX3_smooth 77 = .ok (.iinc 2 8, 3) := by decide +kernel
theorem dX3_smooth_80 : decode cX3_smooth 80 = .ok (.goto (-36), 3) := by decide +kernel
theorem dX3_smooth_83 : decode cX3_smooth 83 = .ok (.return_, 1) := by decide +kernel
theorem dX3_smoothAcross_0 : decode cX3_smoothAcross 0 = .ok (.aload_n 0, 1) := by decide +kernel
theorem dX3_smoothAcross_1 : decode cX3_smoothAcross 1 = .ok (.getfield 18, 3) := by decide +kernel
theorem dX3_smoothAcross_4 : decode cX3_smoothAcross 4 = .ok (.iload_n 1, 1) := by decide +kernel
theorem dX3_smoothAcross_5 : decode cX3_smoothAcross 5 = .ok (.iconst 2, 1) := by decide +kernel
theorem dX3_smoothAcross_6 : decode cX3_smoothAcross 6 = .ok (.iload_n 2, 1) := by decide +kernel
theorem dX3_smoothAcross_7 : decode cX3_smoothAcross 7 = .ok (.imul, 1) := by decide +kernel
theorem dX3_smoothAcross_8 : decode cX3_smoothAcross 8 = .ok (.isub, 1) := by decide +kernel
theorem dX3_smoothAcross_9 : decode cX3_smoothAcross 9 = .ok (.iaload, 1) := by decide +kernel
theorem dX3_smoothAcross_10 : decode cX3_smoothAcross 10 = .ok (.istore 4, 2) := by decide +kernel
theorem dX3_smoothAcross_12 : decode cX3_smoothAcross 12 = .ok (.aload_n 0, 1) := by decide +kernel
theorem dX3_smoothAcross_13 : decode cX3_smoothAcross 13 = .ok (.getfield 18, 3) := by decide +kernel
theorem dX3_smoothAcross_16 : decode cX3_smoothAcross 16 = .ok (.iload_n 1, 1) := by decide +kernel
theorem dX3_smoothAcross_17 : decode cX3_smoothAcross 17 = .ok (.iload_n 2, 1) := by decide +kernel
theorem dX3_smoothAcross_18 : decode cX3_smoothAcross 18 = .ok (.isub, 1) := by decide +kernel
theorem dX3_smoothAcross_19 : decode cX3_smoothAcross 19 = .ok (.iaload, 1) := by decide +kernel
theorem dX3_smoothAcross_20 : decode cX3_smoothAcross 20 = .ok (.istore 5, 2) := by decide +kernel
theorem dX3_smoothAcross_22 : decode cX3_smoothAcross 22 = .ok (.aload_n 0, 1) := by decide +kernel
theorem dX3_smoothAcross_23 : decode cX3_smoothAcross 23 = .ok (.getfield 18, 3) := by decide +kernel
theorem dX3_smoothAcross_26 : decode cX3_smoothAcross 26 = .ok (.iload_n 1, 1) := by decide +kernel
theorem dX3_smoothAcross_27 : decode cX3_smoothAcross 27 = .ok (.iaload, 1) := by decide +kernel
theorem dX3_smoothAcross_28 : decode cX3_smoothAcross 28 = .ok (.istore 6, 2) := by decide +kernel
theorem dX3_smoothAcross_30 : decode cX3_smoothAcross 30 = .ok (.aload_n 0, 1) := by decide +kernel
theorem dX3_smoothAcross_31 : decode cX3_smoothAcross 31 = .ok (.getfield 18, 3) := by decide +kernel
theorem dX3_smoothAcross_34 : decode cX3_smoothAcross 34 = .ok (.iload_n 1, 1) := by decide +kernel
theorem dX3_smoothAcross_35 : decode cX3_smoothAcross 35 = .ok (.iload_n 2, 1) := by decide +kernel
theorem dX3_smoothAcross_36 : decode cX3_smoothAcross 36 = .ok (.iadd, 1) := by decide +kernel
theorem dX3_smoothAcross_37 : decode cX3_smoothAcross 37 = .ok (.iaload, 1) := by decide +kernel
theorem dX3_smoothAcross_38 : decode cX3_smoothAcross 38 = .ok (.istore 7, 2) := by decide +kernel
theorem dX3_smoothAcross_40 : decode cX3_smoothAcross 40 = .ok (.iload 6, 2) := by decide +kernel
theorem dX3_smoothAcross_42 : decode cX3_smoothAcross 42 = .ok (.iload 5, 2) := by decide +kernel
theorem dX3_smoothAcross_44 : decode cX3_smoothAcross 44 = .ok (.isub, 1) := by decide +kernel
theorem dX3_smoothAcross_45 : decode cX3_smoothAcross 45 = .ok (.invokestatic 53, 3) := by decide +kernel
theorem dX3_smoothAcross_48 : decode cX3_smoothAcross 48 = .ok (.iconst 2, 1) := by decide +kernel
theorem dX3_smoothAcross_49 : decode cX3_smoothAcross 49 = .ok (.iload_n 3, 1) := by decide +kernel
theorem dX3_smoothAcross_50 : decode cX3_smoothAcross 50 = .ok (.iconst 2, 1) := by decide +kernel
theorem dX3_smoothAcross_51 : decode cX3_smoothAcross 51 = .ok (.iadd, 1) := by decide +kernel
theorem dX3_smoothAcross_52 : decode cX3_smoothAcross 52 = .ok (.imul, 1) := by decide +kernel
theorem dX3_smoothAcross_53 : decode cX3_smoothAcross 53 = .ok (.if_icmp .gt 7, 3) := by decide +kernel
theorem dX3_smoothAcross_56 : decode cX3_smoothAcross 56 = .ok (.iconst 1, 1) := by decide +kernel
theorem dX3_smoothAcross_57 : decode cX3_smoothAcross 57 = .ok (.goto 4, 3) := by decide +kernel
theorem dX3_smoothAcross_60 : decode cX3_smoothAcross 60 = .ok (.iconst 0, 1) := by decide +kernel
theorem dX3_smoothAcross_61 : decode cX3_smoothAcross 61 = .ok (.istore 8, 2) := by decide +kernel
theorem dX3_smoothAcross_63 : decode cX3_smoothAcross 63 = .ok (.iload 8, 2) := by decide +kernel
theorem dX3_smoothAcross_65 : decode cX3_smoothAcross 65 = .ok (.ifCond .eq 64, 3) := by decide +kernel
theorem dX3_smoothAcross_68 : decode cX3_smoothAcross 68 = .ok (.iload 5, 2) := by decide +kernel
theorem dX3_smoothAcross_70 : decode cX3_smoothAcross 70 = .ok (.iload 4, 2) := by decide +kernel
theorem dX3_smoothAcross_72 : decode cX3_smoothAcross 72 = .ok (.isub, 1) := by decide +kernel
theorem dX3_smoothAcross_73 : decode cX3_smoothAcross 73 = .ok (.invokestatic 53, 3) := by decide +kernel
theorem dX3_smoothAcross_76 : decode cX3_smoothAcross 76 = .ok (.iload_n 3, 1) := by decide +kernel
theorem dX3_smoothAcross_77 : decode cX3_smoothAcross 77 = .ok (.iconst 2, 1) := by decide +kernel
theorem dX3_smoothAcross_78 : decode cX3_smoothAcross 78 = .ok (.iadd, 1) := by decide +kernel
theorem dX3_smoothAcross_79 : decode cX3_smoothAcross 79 = .ok (.if_icmp .gt 50, 3) := by decide +kernel
theorem dX3_smoothAcross_82 : decode cX3_smoothAcross 82 = .ok (.iload 7, 2) := by decide +kernel
theorem dX3_smoothAcross_84 : decode cX3_smoothAcross 84 = .ok (.iload 6, 2) := by decide +kernel
theorem dX3_smoothAcross_86 : decode cX3_smoothAcross 86 = .ok (.isub, 1) := by decide +kernel
theorem dX3_smoothAcross_87 : decode cX3_smoothAcross 87 = .ok (.invokestatic 53, 3) := by decide +kernel
theorem dX3_smoothAcross_90 : decode cX3_smoothAcross 90 = .ok (.iload_n 3, 1) := by decide +kernel
theorem dX3_smoothAcross_91 : decode cX3_smoothAcross 91 = .ok (.iconst 2, 1) := by decide +kernel
theorem dX3_smoothAcross_92 : decode cX3_smoothAcross 92 = .ok (.iadd, 1) := by decide +kernel
theorem dX3_smoothAcross_93 : decode cX3_smoothAcross 93 = .ok (.if_icmp .gt 36, 3) := by decide +kernel
theorem dX3_smoothAcross_96 : decode cX3_smoothAcross 96 = .ok (.iload 6, 2) := by decide +kernel
theorem dX3_smoothAcross_98 : decode cX3_smoothAcross 98 = .ok (.iload 5, 2) := by decide +kernel
theorem dX3_smoothAcross_100 : decode cX3_smoothAcross 100 = .ok (.isub, 1) := by decide +kernel
theorem dX3_smoothAcross_101 : decode cX3_smoothAcross 101 = .ok (.iconst 4, 1) := by decide +kernel
theorem dX3_smoothAcross_102 : decode cX3_smoothAcross 102 = .ok (.idiv, 1) := by decide +kernel
theorem dX3_smoothAcross_103 : decode cX3_smoothAcross 103 = .ok (.istore 9, 2) := by decide +kernel
theorem dX3_smoothAcross_105 : decode cX3_smoothAcross 105 = .ok (.aload_n 0, 1) := by decide +kernel
theorem dX3_smoothAcross_106 : decode cX3_smoothAcross 106 = .ok (.getfield 18, 3) := by decide +kernel
theorem dX3_smoothAcross_109 : decode cX3_smoothAcross 109 = .ok (.iload_n 1, 1) := by decide +kernel
theorem dX3_smoothAcross_110 : decode cX3_smoothAcross 110 = .ok (.iload_n 2, 1) := by decide +kernel
theorem dX3_smoothAcross_111 : decode cX3_smoothAcross 111 = .ok (.isub, 1) := by decide +kernel
theorem dX3_smoothAcross_112 : decode cX3_smoothAcross 112 = .ok (.iload 5, 2) := by decide +kernel
theorem dX3_smoothAcross_114 : decode cX3_smoothAcross 114 = .ok (.iload 9, 2) := by decide +kernel
theorem dX3_smoothAcross_116 : decode cX3_smoothAcross 116 = .ok (.iadd, 1) := by decide +kernel
theorem dX3_smoothAcross_117 : decode cX3_smoothAcross 117 = .ok (.iastore, 1) := by decide +kernel
theorem dX3_smoothAcross_118 : decode cX3_smoothAcross 118 = .ok (.aload_n 0, 1) := by decide +kernel
theorem dX3_smoothAcross_119 : decode cX3_smoothAcross 119 = .ok (.getfield 18, 3) := by decide +kernel
theorem dX3_smoothAcross_122 : decode cX3_smoothAcross 122 = .ok (.iload_n 1, 1) := by decide +kernel
theorem dX3_smoothAcross_123 : decode cX3_smoothAcross 123 = .ok (.iload 6, 2) := by decide +kernel
theorem dX3_smoothAcross_125 : decode cX3_smoothAcross 125 = .ok (.iload 9, 2) := by decide +kernel
theorem dX3_smoothAcross_127 : decode cX3_smoothAcross 127 = .ok (.isub, 1) := by decide +kernel
theorem dX3_smoothAcross_128 : decode cX3_smoothAcross 128 = .ok (.iastore, 1) := by decide +kernel
theorem dX3_smoothAcross_129 : decode cX3_smoothAcross 129 = .ok (.return_, 1) := by decide +kernel
set_option maxRecDepth 20000 in
theorem ggX4_init_X3_init : GoodIn wsX4_init wsX3_init := goodIn_r _ [12, 13, 2, 3, 8, 14, 15, 16, 17, 22, 23, 24, 25] (by decide +kernel) (by decide +kernel)
set_option maxRecDepth 20000 in
theorem gX4_init_X3_init_n11 : GoodIn wsX4_init (wsX3_init) := ggX4_init_X3_init
set_option maxRecDepth 20000 in
theorem ggX4_init_J7_fill_53178 : GoodIn wsX4_init wsJ7_fill_53178 := goodIn_r _ [21] (by decide +kernel) (by decide +kernel)
set_option maxRecDepth 20000 in
theorem gX4_init_J7_fill_53178 : GoodIn wsX4_init (va_wsS RX4 26 yJ7_fill_53178 wsJ7_fill_53178) := goodIn_app (goodIn_of _ (by decide +kernel)) ggX4_init_J7_fill_53178
theorem dX4_init_0 : decode cX4_init 0 = .ok (.aload_n 0, 1) := by decide +kernel
theorem dX4_init_1 : decode cX4_init 1 = .ok (.invokespecial 3, 3) := by decide +kernel
theorem dX4_init_4 : decode cX4_init 4 = .ok (.aload_n 0, 1) := by decide +kernel
theorem dX4_init_5 : decode cX4_init 5 = .ok (.new 9, 3) := by decide +kernel
theorem dX4_init_8 : decode cX4_init 8 = .ok (.dup, 1) := by decide +kernel
theorem dX4_init_9 : decode cX4_init 9 = .ok (.invokespecial 11, 3) := by decide +kernel
theorem dX4_init_12 : decode cX4_init 12 = .ok (.putfield 12, 3) := by decide +kernel
theorem dX4_init_15 : decode cX4_init 15 = .ok (.aload_n 0, 1) := by decide +kernel
theorem dX4_init_16 : decode cX4_init 16 = .ok (.sipush 768, 3) := by decide +kernel
theorem dX4_init_19 : decode cX4_init 19 = .ok (.newarray .int, 2) := by decide +kernel
theorem dX4_init_21 : decode cX4_init 21 = .ok (.putfield 18, 3) := by decide +kernel
theorem dX4_init_24 : decode cX4_init 24 = .ok (.aload_n 0, 1) := by decide +kernel
theorem dX4_init_25 : decode cX4_init 25 = .ok (.iconst 0, 1) := by decide +kernel
theorem dX4_init_26 : decode cX4_init 26 = .ok (.putfield 22, 3) := by decide +kernel
theorem dX4_init_29 : decode cX4_init 29 = .ok (.aload_n 0, 1) := by decide +kernel
theorem dX4_init_30 : decode cX4_init 30 = .ok (.getfield 18, 3) := by decide +kernel
theorem dX4_init_33 : decode cX4_init 33 = .ok (.sipush 128, 3) := by decide +kernel
theorem dX4_init_36 : decode cX4_init 36 = .ok (.invokestatic 26, 3) := by decide +kernel
theorem dX4_init_39 : decode cX4_init 39 = .ok (.return_, 1) := by decide +kernel
set_option maxRecDepth 20000 in
theorem ggX4_make_X3_lookAhead : GoodIn wsX4_make wsX3_lookAhead := goodIn_r _ [14, 15, 16, 17, 18, 19, 20, 21, 22, 23, 24, 25, 129, 130, 131, 132] (by decide +kernel) (by decide +kernel)
set_option maxRecDepth 20000 in
theorem gX4_make_X3_lookAhead : GoodIn wsX4_make (wsV RX4 32 RX3 yX3_lookAhead wsX3_lookAhead) := goodIn_app (goodIn_of _ (by decide +kernel)) ggX4_make_X3_lookAhead
set_option maxRecDepth 20000 in
theorem ggX4_make_X3_foretell : GoodIn wsX4_make wsX3_foretell := goodIn_r _ [29, 30, 31, 32, 13, 33, 34, 35, 36, 37, 38, 39, 40, 41, 42, 15, 43, 44, 45, 46, 47, 48, 17, 49, 50, 51, 52, 53, 54, 55, 56, 57, 58, 59, 60, 61, 62, 63, 64, 65, 129, 130, 131, 132] (by decide +kernel) (by decide +kernel)
set_option maxRecDepth 20000 in
theorem gX4_make_X3_foretell : GoodIn wsX4_make (wsV RX4 51 RX3 yX3_foretell wsX3_foretell) := goodIn_app (goodIn_of _ (by decide +kernel)) ggX4_make_X3_foretell
set_option maxRecDepth 20000 in
theorem ggX4_make_X3_makeBlock : GoodIn wsX4_make wsX3_makeBlock := goodIn_r _ [69, 70, 71, 47, 34, 72, 73, 74, 13, 75, 76, 77, 78, 79, 80, 81, 82, 83, 84, 85, 50, 17, 51, 64, 65, 129, 130, 131, 132] (by decide +kernel) (by decide +kernel)
set_option maxRecDepth 20000 in
theorem gX4_make_X3_makeBlock : GoodIn wsX4_make (wsV RX4 61 RX3 yX3_makeBlock wsX3_makeBlock) := goodIn_app (goodIn_of _ (by decide +kernel)) ggX4_make_X3_makeBlock
set_option maxRecDepth 20000 in
theorem ggX4_make_X4_conceal : GoodIn wsX4_make wsX4_conceal := goodIn_r _ [90, 3, 5, 6, 1, 26, 27, 28, 13, 29, 30, 31, 32, 33, 34, 35, 36, 37, 38, 39, 40, 41, 42, 15, 43, 44, 45, 46, 47, 48, 17, 49, 50, 51, 52, 53, 54, 55, 56, 57, 58, 59, 60, 61, 62, 63, 64, 65, 91, 92, 93, 94, 83, 84, 85, 115, 116, 117, 118, 119, 120, 121, 122, 123, 124, 125, 126, 127, 128, 112, 113, 114, 129, 130, 131, 132] (by decide +kernel) (by decide +kernel)
set_option maxRecDepth 20000 in
theorem gX4_make_X4_conceal : GoodIn wsX4_make (wsV RX4 65 RX4 yX4_conceal wsX4_conceal) := goodIn_app (goodIn_of _ (by decide +kernel)) ggX4_make_X4_conceal
set_option maxRecDepth 20000 in
theorem ggX4_make_X2_bandsGot : GoodIn wsX4_make wsX2_bandsGot := goodIn_r _ [99, 100, 115, 116, 117, 118, 119, 120, 121, 122, 123, 124, 125, 126, 127, 128] (by decide +kernel) (by decide +kernel)
set_option maxRecDepth 20000 in
theorem gX4_make_X2_bandsGot : GoodIn wsX4_make (wsV RX4 73 RX2 yX2_bandsGot wsX2_bandsGot) := goodIn_app (goodIn_of _ (by decide +kernel)) ggX4_make_X2_bandsGot
set_option maxRecDepth 20000 in
theorem ggX4_make_X3_smooth : GoodIn wsX4_make wsX3_smooth := goodIn_r _ [104, 105, 106, 107, 13, 108, 47, 109, 110, 21, 111, 129, 130, 131, 132] (by decide +kernel) (by decide +kernel)
set_option maxRecDepth 20000 in
theorem gX4_make_X3_smooth : GoodIn wsX4_make (wsV RX4 77 RX3 yX3_smooth wsX3_smooth) := goodIn_app (goodIn_of _ (by decide +kernel)) ggX4_make_X3_smooth
theorem dX4_make_0 : decode cX4_make 0 = .ok (.aload_n 0, 1) := by decide +kernel
theorem dX4_make_1 : decode cX4_make 1 = .ok (.getfield 12, 3) := by decide +kernel
theorem dX4_make_4 : decode cX4_make 4 = .ok (.aload_n 0, 1) := by decide +kernel
theorem dX4_make_5 : decode cX4_make 5 = .ok (.getfield 18, 3) := by decide +kernel
theorem dX4_make_8 : decode cX4_make 8 = .ok (.invokevirtual 32, 3) := by decide +kernel
theorem dX4_make_11 : decode cX4_make 11 = .ok (.iconst 0, 1) := by decide +kernel
theorem dX4_make_12 : decode cX4_make 12 = .ok (.istore_n 2, 1) := by decide +kernel
theorem dX4_make_13 : decode cX4_make 13 = .ok (.iload_n 2, 1) := by decide +kernel
theorem dX4_make_14 : decode cX4_make 14 = .ok (.bipush 12, 2) := by decide +kernel
theorem dX4_make_16 : decode cX4_make 16 = .ok (.if_icmp .ge 71, 3) := by decide +kernel
theorem dX4_make_19 : decode cX4_make 19 = .ok (.aload_n 1, 1) := by decide +kernel
theorem dX4_make_20 : decode cX4_make 20 = .ok (.getfield 36, 3) := by decide +kernel
theorem dX4_make_23 : decode cX4_make 23 = .ok (.iload_n 2, 1) := by decide +kernel
theorem dX4_make_24 : decode cX4_make 24 = .ok (.iconst 4, 1) := by decide +kernel
theorem dX4_make_25 : decode cX4_make 25 = .ok (.idiv, 1) := by decide +kernel
theorem dX4_make_26 : decode cX4_make 26 = .ok (.baload, 1) := by decide +kernel
theorem dX4_make_27 : decode cX4_make 27 = .ok (.ifCond .eq 48, 3) := by decide +kernel
theorem dX4_make_30 : decode cX4_make 30 = .ok (.aload_n 0, 1) := by decide +kernel
theorem dX4_make_31 : decode cX4_make 31 = .ok (.getfield 12, 3) := by decide +kernel
theorem dX4_make_34 : decode cX4_make 34 = .ok (.aload_n 1, 1) := by decide +kernel
theorem dX4_make_35 : decode cX4_make 35 = .ok (.getfield 42, 3) := by decide +kernel
theorem dX4_make_38 : decode cX4_make 38 = .ok (.iload_n 2, 1) := by decide +kernel
theorem dX4_make_39 : decode cX4_make 39 = .ok (.iaload, 1) := by decide +kernel
theorem dX4_make_40 : decode cX4_make 40 = .ok (.iload_n 2, 1) := by decide +kernel
theorem dX4_make_41 : decode cX4_make 41 = .ok (.aload_n 1, 1) := by decide +kernel
theorem dX4_make_42 : decode cX4_make 42 = .ok (.getfield 45, 3) := by decide +kernel
theorem dX4_make_45 : decode cX4_make 45 = .ok (.iload_n 2, 1) := by decide +kernel
theorem dX4_make_46 : decode cX4_make 46 = .ok (.iaload, 1) := by decide +kernel
theorem dX4_make_47 : decode cX4_make 47 = .ok (.aload_n 1, 1) := by decide +kernel
theorem dX4_make_48 : decode cX4_make 48 = .ok (.getfield 48, 3) := by decide +kernel
theorem dX4_make_51 : decode cX4_make 51 = .ok (.iload_n 2, 1) := by decide +kernel
theorem dX4_make_52 : decode cX4_make 52 = .ok (.iaload, 1) := by decide +kernel
theorem dX4_make_53 : decode cX4_make 53 = .ok (.invokevirtual 51, 3) := by decide +kernel
theorem dX4_make_56 : decode cX4_make 56 = .ok (.aload_n 0, 1) := by decide +kernel
theorem dX4_make_57 : decode cX4_make 57 = .ok (.getfield 12, 3) := by decide +kernel
theorem dX4_make_60 : decode cX4_make 60 = .ok (.iload_n 2, 1) := by decide +kernel
theorem dX4_make_61 : decode cX4_make 61 = .ok (.aload_n 1, 1) := by decide +kernel
theorem dX4_make_62 : decode cX4_make 62 = .ok (.getfield 55, 3) := by decide +kernel
theorem dX4_make_65 : decode cX4_make 65 = .ok (.aload_n 1, 1) := by decide +kernel
theorem dX4_make_66 : decode cX4_make 66 = .ok (.getfield 58, 3) := by decide +kernel
theorem dX4_make_69 : decode cX4_make 69 = .ok (.invokevirtual 61, 3) := by decide +kernel
theorem dX4_make_72 : decode cX4_make 72 = .ok (.goto 9, 3) := by decide +kernel
theorem dX4_make_75 : decode cX4_make 75 = .ok (.aload_n 0, 1) := by decide +kernel
theorem dX4_make_76 : decode cX4_make 76 = .ok (.aload_n 1, 1) := by decide +kernel
theorem dX4_make_77 : decode cX4_make 77 = .ok (.iload_n 2, 1) := by decide +kernel
theorem dX4_make_78 : decode cX4_make 78 = .ok (.invokevirtual 65, 3) := by decide +kernel
theorem dX4_make_81 : decode cX4_make 81 = .ok (.iinc 2 1, 3) := by decide +kernel
theorem dX4_make_84 : decode cX4_make 84 = .ok (.goto (-71), 3) := by decide +kernel
theorem dX4_make_87 : decode cX4_make 87 = .ok (.aload_n 1, 1) := by decide +kernel
theorem dX4_make_88 : decode cX4_make 88 = .ok (.getfield 69, 3) := by decide +kernel
theorem dX4_make_91 : decode cX4_make 91 = .ok (.ifCond .eq 21, 3) := by decide +kernel
theorem dX4_make_94 : decode cX4_make 94 = .ok (.aload_n 1, 1) := by decide +kernel
theorem dX4_make_95 : decode cX4_make 95 = .ok (.invokevirtual 73, 3) := by decide +kernel
theorem dX4_make_98 : decode cX4_make 98 = .ok (.ifCond .le 14, 3) := by decide +kernel
theorem dX4_make_101 : decode cX4_make 101 = .ok (.aload_n 0, 1) := by decide +kernel
theorem dX4_make_102 : decode cX4_make 102 = .ok (.getfield 12, 3) := by decide +kernel
theorem dX4_make_105 : decode cX4_make 105 = .ok (.aload_n 1, 1) := by decide +kernel
theorem dX4_make_106 : decode cX4_make 106 = .ok (.getfield 55, 3) := by decide +kernel
theorem dX4_make_109 : decode cX4_make 109 = .ok (.invokevirtual 77, 3) := by decide +kernel
theorem dX4_make_112 : decode cX4_make 112 = .ok (.return_, 1) := by decide +kernel
set_option maxRecDepth 20000 in
theorem ggX4_conceal_X3_foretell : GoodIn wsX4_conceal wsX3_foretell := goodIn_r _ [9, 10, 11, 12, 8, 13, 14, 15, 16, 17, 18, 19, 20, 21, 22, 23, 24, 25, 26, 27, 28, 29, 30, 31, 32, 33, 34, 35, 36, 37, 38, 39, 40, 41, 42, 43, 44, 45, 46, 47, 72, 73, 74, 75] (by decide +kernel) (by decide +kernel)
set_option maxRecDepth 20000 in
theorem gX4_conceal_X3_foretell : GoodIn wsX4_conceal (wsV RX4 51 RX3 yX3_foretell wsX3_foretell) := goodIn_app (goodIn_of _ (by decide +kernel)) ggX4_conceal_X3_foretell
set_option maxRecDepth 20000 in
theorem ggX4_conceal_X3_makeForetold : GoodIn wsX4_conceal wsX3_makeForetold := goodIn_r _ [51, 28, 14, 52, 53, 8, 54, 32, 30, 33, 72, 73, 74, 75] (by decide +kernel) (by decide +kernel)
set_option maxRecDepth 20000 in
theorem gX4_conceal_X3_makeForetold : GoodIn wsX4_conceal (wsV RX4 81 RX3 yX3_makeForetold wsX3_makeForetold) := goodIn_app (goodIn_of _ (by decide +kernel)) ggX4_conceal_X3_makeForetold
theorem dX4_conceal_0 : decode cX4_conceal 0 = .ok (.iload_n 2, 1) := by decide +kernel
theorem dX4_conceal_1 : decode cX4_conceal 1 = .ok (.iconst 4, 1) := by decide +kernel
theorem dX4_conceal_2 : decode cX4_conceal 2 = .ok (.isub, 1) := by decide +kernel
theorem dX4_conceal_3 : decode cX4_conceal 3 = .ok (.istore_n 3, 1) := by decide +kernel
theorem dX4_conceal_4 : decode cX4_conceal 4 = .ok (.iload_n 3, 1) := by decide +kernel
theorem dX4_conceal_5 : decode cX4_conceal 5 = .ok (.ifCond .lt 18, 3) := by decide +kernel
theorem dX4_conceal_8 : decode cX4_conceal 8 = .ok (.aload_n 1, 1) := by decide +kernel
theorem dX4_conceal_9 : decode cX4_conceal 9 = .ok (.getfield 36, 3) := by decide +kernel
theorem dX4_conceal_12 : decode cX4_conceal 12 = .ok (.iload_n 3, 1) := by decide +kernel
theorem dX4_conceal_13 : decode cX4_conceal 13 = .ok (.iconst 4, 1) := by decide +kernel
theorem dX4_conceal_14 : decode cX4_conceal 14 = .ok (.idiv, 1) := by decide +kernel
theorem dX4_conceal_15 : decode cX4_conceal 15 = .ok (.baload, 1) := by decide +kernel
theorem dX4_conceal_16 : decode cX4_conceal 16 = .ok (.ifCond .eq 7, 3) := by decide +kernel
theorem dX4_conceal_19 : decode cX4_conceal 19 = .ok (.iconst 1, 1) := by decide +kernel
theorem dX4_conceal_20 : decode cX4_conceal 20 = .ok (.goto 4, 3) := by decide +kernel
theorem dX4_conceal_23 : decode cX4_conceal 23 = .ok (.iconst 0, 1) := by decide +kernel
theorem dX4_conceal_24 : decode cX4_conceal 24 = .ok (.istore 4, 2) := by decide +kernel
theorem dX4_conceal_26 : decode cX4_conceal 26 = .ok (.iload 4, 2) := by decide +kernel
theorem dX4_conceal_28 : decode cX4_conceal 28 = .ok (.ifCond .eq 12, 3) := by decide +kernel
theorem dX4_conceal_31 : decode cX4_conceal 31 = .ok (.aload_n 1, 1) := by decide +kernel
theorem dX4_conceal_32 : decode cX4_conceal 32 = .ok (.getfield 45, 3) := by decide +kernel
theorem dX4_conceal_35 : decode cX4_conceal 35 = .ok (.iload_n 3, 1) := by decide +kernel
theorem dX4_conceal_36 : decode cX4_conceal 36 = .ok (.iaload, 1) := by decide +kernel
theorem dX4_conceal_37 : decode cX4_conceal 37 = .ok (.goto 4, 3) := by decide +kernel
theorem dX4_conceal_40 : decode cX4_conceal 40 = .ok (.iconst 0, 1) := by decide +kernel
theorem dX4_conceal_41 : decode cX4_conceal 41 = .ok (.istore 5, 2) := by decide +kernel
theorem dX4_conceal_43 : decode cX4_conceal 43 = .ok (.iload 4, 2) := by decide +kernel
theorem dX4_conceal_45 : decode cX4_conceal 45 = .ok (.ifCond .eq 12, 3) := by decide +kernel
theorem dX4_conceal_48 : decode cX4_conceal 48 = .ok (.aload_n 1, 1) := by decide +kernel
theorem dX4_conceal_49 : decode cX4_conceal 49 = .ok (.getfield 48, 3) := by decide +kernel
theorem dX4_conceal_52 : decode cX4_conceal 52 = .ok (.iload_n 3, 1) := by decide +kernel
theorem dX4_conceal_53 : decode cX4_conceal 53 = .ok (.iaload, 1) := by decide +kernel
theorem dX4_conceal_54 : decode cX4_conceal 54 = .ok (.goto 4, 3) := by decide +kernel
theorem dX4_conceal_57 : decode cX4_conceal 57 = .ok (.iconst 0, 1) := by decide +kernel
theorem dX4_conceal_58 : decode cX4_conceal 58 = .ok (.istore 6, 2) := by decide +kernel
theorem dX4_conceal_60 : decode cX4_conceal 60 = .ok (.aload_n 0, 1) := by decide +kernel
theorem dX4_conceal_61 : decode cX4_conceal 61 = .ok (.getfield 12, 3) := by decide +kernel
theorem dX4_conceal_64 : decode cX4_conceal 64 = .ok (.iconst 1, 1) := by decide +kernel
theorem dX4_conceal_65 : decode cX4_conceal 65 = .ok (.iload_n 2, 1) := by decide +kernel
theorem dX4_conceal_66 : decode cX4_conceal 66 = .ok (.iload 5, 2) := by decide +kernel
theorem dX4_conceal_68 : decode cX4_conceal 68 = .ok (.iload 6, 2) := by decide +kernel
theorem dX4_conceal_70 : decode cX4_conceal 70 = .ok (.invokevirtual 51, 3) := by decide +kernel
theorem dX4_conceal_73 : decode cX4_conceal 73 = .ok (.aload_n 0, 1) := by decide +kernel
theorem dX4_conceal_74 : decode cX4_conceal 74 = .ok (.getfield 12, 3) := by decide +kernel
theorem dX4_conceal_77 : decode cX4_conceal 77 = .ok (.iload_n 2, 1) := by decide +kernel
theorem dX4_conceal_78 : decode cX4_conceal 78 = .ok (.invokevirtual 81, 3) := by decide +kernel
theorem dX4_conceal_81 : decode cX4_conceal 81 = .ok (.return_, 1) := by decide +kernel
theorem dX4_takeMade_0 : decode cX4_takeMade 0 = .ok (.aload_n 0, 1) := by decide +kernel
theorem dX4_takeMade_1 : decode cX4_takeMade 1 = .ok (.getfield 12, 3) := by decide +kernel
theorem dX4_takeMade_4 : decode cX4_takeMade 4 = .ok (.getfield 84, 3) := by decide +kernel
theorem dX4_takeMade_7 : decode cX4_takeMade 7 = .ok (.iconst 0, 1) := by decide +kernel
theorem dX4_takeMade_8 : decode cX4_takeMade 8 = .ok (.aload_n 0, 1) := by decide +kernel
theorem dX4_takeMade_9 : decode cX4_takeMade 9 = .ok (.getfield 18, 3) := by decide +kernel
theorem dX4_takeMade_12 : decode cX4_takeMade 12 = .ok (.iconst 0, 1) := by decide +kernel
theorem dX4_takeMade_13 : decode cX4_takeMade 13 = .ok (.sipush 768, 3) := by decide +kernel
theorem dX4_takeMade_16 : decode cX4_takeMade 16 = .ok (.invokestatic 87, 3) := by decide +kernel
theorem dX4_takeMade_19 : decode cX4_takeMade 19 = .ok (.aload_n 0, 1) := by decide +kernel
theorem dX4_takeMade_20 : decode cX4_takeMade 20 = .ok (.dup, 1) := by decide +kernel
theorem dX4_takeMade_21 : decode cX4_takeMade 21 = .ok (.getfield 22, 3) := by decide +kernel
theorem dX4_takeMade_24 : decode cX4_takeMade 24 = .ok (.iconst 1, 1) := by decide +kernel
theorem dX4_takeMade_25 : decode cX4_takeMade 25 = .ok (.iadd, 1) := by decide +kernel
theorem dX4_takeMade_26 : decode cX4_takeMade 26 = .ok (.putfield 22, 3) := by decide +kernel
theorem dX4_takeMade_29 : decode cX4_takeMade 29 = .ok (.return_, 1) := by decide +kernel
set_option maxRecDepth 20000 in
theorem ggX5_init_X0_init : GoodIn wsX5_init wsX0_init := goodIn_r _ [32, 33, 2, 3, 34, 35, 36, 37, 38, 39, 40, 41, 42, 43, 44, 4, 45, 46, 47, 48, 126, 127, 128, 129, 100, 101, 102, 103, 104] (by decide +kernel) (by decide +kernel)
set_option maxRecDepth 20000 in
theorem gX5_init_X0_init_n21 : GoodIn wsX5_init (wsX0_init) := ggX5_init_X0_init
set_option maxRecDepth 20000 in
theorem ggX5_init_X1_init : GoodIn wsX5_init wsX1_init := goodIn_r _ [50, 51, 2, 3, 4, 52, 53, 54, 55, 105, 106, 107, 108] (by decide +kernel) (by decide +kernel)
set_option maxRecDepth 20000 in
theorem gX5_init_X1_init_n28 : GoodIn wsX5_init (wsX1_init) := ggX5_init_X1_init
set_option maxRecDepth 20000 in
theorem ggX5_init_X4_init : GoodIn wsX5_init wsX4_init := goodIn_r _ [58, 59, 2, 3, 60, 35, 36, 61, 4, 62, 63, 42, 43, 44, 45, 46, 47, 48, 64, 65, 66, 67, 126, 127, 128, 129, 109, 110, 111] (by decide +kernel) (by decide +kernel)
set_option maxRecDepth 20000 in
theorem gX5_init_X4_init : GoodIn wsX5_init (wsX4_init) := ggX5_init_X4_init
set_option maxRecDepth 20000 in
theorem ggX5_init_X2_init : GoodIn wsX5_init wsX2_init := goodIn_r _ [69, 70, 2, 3, 4, 71, 72, 73, 74, 75, 76, 77, 78, 79, 80, 81, 82, 83, 84, 85, 112, 113, 114, 115, 116, 117, 118, 119, 120, 121, 122, 123, 124, 125] (by decide +kernel) (by decide +kernel)
set_option maxRecDepth 20000 in
theorem gX5_init_X2_init_n43 : GoodIn wsX5_init (wsX2_init) := ggX5_init_X2_init
theorem dX5_init_0 : decode cX5_init 0 = .ok (.aload_n 0, 1) := by decide +kernel
theorem dX5_init_1 : decode cX5_init 1 = .ok (.invokespecial 3, 3) := by decide +kernel
theorem dX5_init_4 : decode cX5_init 4 = .ok (.aload_n 0, 1) := by decide +kernel
theorem dX5_init_5 : decode cX5_init 5 = .ok (.sipush 768, 3) := by decide +kernel
theorem dX5_init_8 : decode cX5_init 8 = .ok (.newarray .int, 2) := by decide +kernel
theorem dX5_init_10 : decode cX5_init 10 = .ok (.putfield 9, 3) := by decide +kernel
theorem dX5_init_13 : decode cX5_init 13 = .ok (.aload_n 0, 1) := by decide +kernel
theorem dX5_init_14 : decode cX5_init 14 = .ok (.bipush 24, 2) := by decide +kernel
theorem dX5_init_16 : decode cX5_init 16 = .ok (.anewarray 13, 3) := by decide +kernel
theorem dX5_init_19 : decode cX5_init 19 = .ok (.putfield 15, 3) := by decide +kernel
theorem dX5_init_22 : decode cX5_init 22 = .ok (.aload_n 0, 1) := by decide +kernel
theorem dX5_init_23 : decode cX5_init 23 = .ok (.new 19, 3) := by decide +kernel
theorem dX5_init_26 : decode cX5_init 26 = .ok (.dup, 1) := by decide +kernel
theorem dX5_init_27 : decode cX5_init 27 = .ok (.invokespecial 21, 3) := by decide +kernel
theorem dX5_init_30 : decode cX5_init 30 = .ok (.putfield 22, 3) := by decide +kernel
theorem dX5_init_33 : decode cX5_init 33 = .ok (.aload_n 0, 1) := by decide +kernel
theorem dX5_init_34 : decode cX5_init 34 = .ok (.new 26, 3) := by decide +kernel
theorem dX5_init_37 : decode cX5_init 37 = .ok (.dup, 1) := by decide +kernel
theorem dX5_init_38 : decode cX5_init 38 = .ok (.invokespecial 28, 3) := by decide +kernel
theorem dX5_init_41 : decode cX5_init 41 = .ok (.putfield 29, 3) := by decide +kernel
theorem dX5_init_44 : decode cX5_init 44 = .ok (.aload_n 0, 1) := by decide +kernel
theorem dX5_init_45 : decode cX5_init 45 = .ok (.new 33, 3) := by decide +kernel
theorem dX5_init_48 : decode cX5_init 48 = .ok (.dup, 1) := by decide +kernel
theorem dX5_init_49 : decode cX5_init 49 = .ok (.invokespecial 35, 3) := by decide +kernel
theorem dX5_init_52 : decode cX5_init 52 = .ok (.putfield 36, 3) := by decide +kernel
theorem dX5_init_55 : decode cX5_init 55 = .ok (.aload_n 0, 1) := by decide +kernel
theorem dX5_init_56 : decode cX5_init 56 = .ok (.sipush 768, 3) := by decide +kernel
theorem dX5_init_59 : decode cX5_init 59 = .ok (.newarray .int, 2) := by decide +kernel
theorem dX5_init_61 : decode cX5_init 61 = .ok (.putfield 40, 3) := by decide +kernel
theorem dX5_init_64 : decode cX5_init 64 = .ok (.aload_n 0, 1) := by decide +kernel
theorem dX5_init_65 : decode cX5_init 65 = .ok (.new 13, 3) := by decide +kernel
theorem dX5_init_68 : decode cX5_init 68 = .ok (.dup, 1) := by decide +kernel
theorem dX5_init_69 : decode cX5_init 69 = .ok (.invokespecial 43, 3) := by decide +kernel
theorem dX5_init_72 : decode cX5_init 72 = .ok (.putfield 44, 3) := by decide +kernel
theorem dX5_init_75 : decode cX5_init 75 = .ok (.aload_n 0, 1) := by decide +kernel
theorem dX5_init_76 : decode cX5_init 76 = .ok (.iconst 0, 1) := by decide +kernel
theorem dX5_init_77 : decode cX5_init 77 = .ok (.putfield 48, 3) := by decide +kernel
theorem dX5_init_80 : decode cX5_init 80 = .ok (.aload_n 0, 1) := by decide +kernel
theorem dX5_init_81 : decode cX5_init 81 = .ok (.iconst 0, 1) := by decide +kernel
theorem dX5_init_82 : decode cX5_init 82 = .ok (.putfield 52, 3) := by decide +kernel
theorem dX5_init_85 : decode cX5_init 85 = .ok (.aload_n 0, 1) := by decide +kernel
theorem dX5_init_86 : decode cX5_init 86 = .ok (.bipush 8, 2) := by decide +kernel
theorem dX5_init_88 : decode cX5_init 88 = .ok (.putfield 55, 3) := by decide +kernel
theorem dX5_init_91 : decode cX5_init 91 = .ok (.aload_n 0, 1) := by decide +kernel
theorem dX5_init_92 : decode cX5_init 92 = .ok (.iconst 0, 1) := by decide +kernel
theorem dX5_init_93 : decode cX5_init 93 = .ok (.putfield 58, 3) := by decide +kernel
theorem dX5_init_96 : decode cX5_init 96 = .ok (.aload_n 0, 1) := by decide +kernel
theorem dX5_init_97 : decode cX5_init 97 = .ok (.bipush 12, 2) := by decide +kernel
theorem dX5_init_99 : decode cX5_init 99 = .ok (.putfield 61, 3) := by decide +kernel
theorem dX5_init_102 : decode cX5_init 102 = .ok (.aload_n 0, 1) := by decide +kernel
theorem dX5_init_103 : decode cX5_init 103 = .ok (.iconst 1, 1) := by decide +kernel
theorem dX5_init_104 : decode cX5_init 104 = .ok (.putfield 64, 3) := by decide +kernel
theorem dX5_init_107 : decode cX5_init 107 = .ok (.aload_n 0, 1) := by decide +kernel
theorem dX5_init_108 : decode cX5_init 108 = .ok (.iconst 0, 1) := by decide +kernel
theorem dX5_init_109 : decode cX5_init 109 = .ok (.putfield 68, 3) := by decide +kernel
theorem dX5_init_112 : decode cX5_init 112 = .ok (.return_, 1) := by decide +kernel
set_option maxRecDepth 20000 in
theorem ggX5_fill_X5_isWithin : GoodIn wsX5_fill wsX5_isWithin := goodIn_r _ [7] (by decide +kernel) (by decide +kernel)
set_option maxRecDepth 20000 in
theorem gX5_fill_X5_isWithin : GoodIn wsX5_fill (va_wsS RX5 71 yX5_isWithin wsX5_isWithin) := goodIn_app (goodIn_of _ (by decide +kernel)) ggX5_fill_X5_isWithin
theorem dX5_fill_0 : decode cX5_fill 0 = .ok (.iload_n 1, 1) := by decide +kernel
theorem dX5_fill_1 : decode cX5_fill 1 = .ok (.iconst 0, 1) := by decide +kernel
theorem dX5_fill_2 : decode cX5_fill 2 = .ok (.sipush 255, 3) := by decide +kernel
theorem dX5_fill_5 : decode cX5_fill 5 = .ok (.invokestatic 71, 3) := by decide +kernel
theorem dX5_fill_8 : decode cX5_fill 8 = .ok (.ifCond .ne 13, 3) := by decide +kernel
theorem dX5_fill_11 : decode cX5_fill 11 = .ok (.new 75, 3) := by decide +kernel
theorem dX5_fill_14 : decode cX5_fill 14 = .ok (.dup, 1) := by decide +kernel
theorem dX5_fill_15 : decode cX5_fill 15 = .ok (.ldc 77, 2) := by decide +kernel
theorem dX5_fill_17 : decode cX5_fill 17 = .ok (.invokespecial 79, 3) := by decide +kernel
theorem dX5_fill_20 : decode cX5_fill 20 = .ok (.athrow, 1) := by decide +kernel
theorem dX5_fill_21 : decode cX5_fill 21 = .ok (.iconst 0, 1) := by decide +kernel
theorem dX5_fill_22 : decode cX5_fill 22 = .ok (.istore_n 2, 1) := by decide +kernel
theorem dX5_fill_23 : decode cX5_fill 23 = .ok (.iconst 0, 1) := by decide +kernel
theorem dX5_fill_24 : decode cX5_fill 24 = .ok (.istore_n 3, 1) := by decide +kernel
theorem dX5_fill_25 : decode cX5_fill 25 = .ok (.iload_n 3, 1) := by decide +kernel
theorem dX5_fill_26 : decode cX5_fill 26 = .ok (.sipush 768, 3) := by decide +kernel
theorem dX5_fill_29 : decode cX5_fill 29 = .ok (.if_icmp .ge 34, 3) := by decide +kernel
theorem dX5_fill_32 : decode cX5_fill 32 = .ok (.iload_n 2, 1) := by decide +kernel
theorem dX5_fill_33 : decode cX5_fill 33 = .ok (.aload_n 0, 1) := by decide +kernel
theorem dX5_fill_34 : decode cX5_fill 34 = .ok (.getfield 9, 3) := by decide +kernel
theorem dX5_fill_37 : decode cX5_fill 37 = .ok (.iload_n 3, 1) := by decide +kernel
theorem dX5_fill_38 : decode cX5_fill 38 = .ok (.iaload, 1) := by decide +kernel
theorem dX5_fill_39 : decode cX5_fill 39 = .ok (.iload_n 1, 1) := by decide +kernel
theorem dX5_fill_40 : decode cX5_fill 40 = .ok (.if_icmp .ne 7, 3) := by decide +kernel
theorem dX5_fill_43 : decode cX5_fill 43 = .ok (.iconst 0, 1) := by decide +kernel
theorem dX5_fill_44 : decode cX5_fill 44 = .ok (.goto 4, 3) := by decide +kernel
theorem dX5_fill_47 : decode cX5_fill 47 = .ok (.iconst 1, 1) := by decide +kernel
theorem dX5_fill_48 : decode cX5_fill 48 = .ok (.iadd, 1) := by decide +kernel
theorem dX5_fill_49 : decode cX5_fill 49 = .ok (.istore_n 2, 1) := by decide +kernel
theorem dX5_fill_50 : decode cX5_fill 50 = .ok (.aload_n 0, 1) := by decide +kernel
theorem dX5_fill_51 : decode cX5_fill 51 = .ok (.getfield 9, 3) := by decide +kernel
theorem dX5_fill_54 : decode cX5_fill 54 = .ok (.iload_n 3, 1) := by decide +kernel
theorem dX5_fill_55 : decode cX5_fill 55 = .ok (.iload_n 1, 1) := by decide +kernel
theorem dX5_fill_56 : decode cX5_fill 56 = .ok (.iastore, 1) := by decide +kernel
theorem dX5_fill_57 : decode cX5_fill 57 = .ok (.iinc 3 1, 3) := by decide +kernel
theorem dX5_fill_60 : decode cX5_fill 60 = .ok (.goto (-35), 3) := by decide +kernel
theorem dX5_fill_63 : decode cX5_fill 63 = .ok (.iload_n 2, 1) := by decide +kernel
theorem dX5_fill_64 : decode cX5_fill 64 = .ok (.ireturn, 1) := by decide +kernel
set_option maxRecDepth 20000 in
theorem ggX5_box_X5_isWithin : GoodIn wsX5_box wsX5_isWithin := goodIn_r _ [14] (by decide +kernel) (by decide +kernel)
set_option maxRecDepth 20000 in
theorem gX5_box_X5_isWithin : GoodIn wsX5_box (va_wsS RX5 71 yX5_isWithin wsX5_isWithin) := goodIn_app (goodIn_of _ (by decide +kernel)) ggX5_box_X5_isWithin
theorem dX5_box_0 : decode cX5_box 0 = .ok (.iload_n 1, 1) := by decide +kernel
theorem dX5_box_1 : decode cX5_box 1 = .ok (.bipush (-32), 2) := by decide +kernel
theorem dX5_box_3 : decode cX5_box 3 = .ok (.bipush 32, 2) := by decide +kernel
theorem dX5_box_5 : decode cX5_box 5 = .ok (.invokestatic 71, 3) := by decide +kernel
theorem dX5_box_8 : decode cX5_box 8 = .ok (.ifCond .eq 14, 3) := by decide +kernel
theorem dX5_box_11 : decode cX5_box 11 = .ok (.iload_n 2, 1) := by decide +kernel
theorem dX5_box_12 : decode cX5_box 12 = .ok (.bipush (-32), 2) := by decide +kernel
theorem dX5_box_14 : decode cX5_box 14 = .ok (.bipush 32, 2) := by decide +kernel
theorem dX5_box_16 : decode cX5_box 16 = .ok (.invokestatic 71, 3) := by decide +kernel
theorem dX5_box_19 : decode cX5_box 19 = .ok (.ifCond .ne 13, 3) := by decide +kernel
theorem dX5_box_22 : decode cX5_box 22 = .ok (.new 75, 3) := by decide +kernel
theorem dX5_box_25 : decode cX5_box 25 = .ok (.dup, 1) := by decide +kernel
theorem dX5_box_26 : decode cX5_box 26 = .ok (.ldc 82, 2) := by decide +kernel
theorem dX5_box_28 : decode cX5_box 28 = .ok (.invokespecial 79, 3) := by decide +kernel
theorem dX5_box_31 : decode cX5_box 31 = .ok (.athrow, 1) := by decide +kernel
theorem dX5_box_32 : decode cX5_box 32 = .ok (.iload_n 3, 1) := by decide +kernel
theorem dX5_box_33 : decode cX5_box 33 = .ok (.iconst 1, 1) := by decide +kernel
theorem dX5_box_34 : decode cX5_box 34 = .ok (.bipush 32, 2) := by decide +kernel
theorem dX5_box_36 : decode cX5_box 36 = .ok (.invokestatic 71, 3) := by decide +kernel
theorem dX5_box_39 : decode cX5_box 39 = .ok (.ifCond .eq 14, 3) := by decide +kernel
theorem dX5_box_42 : decode cX5_box 42 = .ok (.iload 4, 2) := by decide +kernel
theorem dX5_box_44 : decode cX5_box 44 = .ok (.iconst 1, 1) := by decide +kernel
theorem dX5_box_45 : decode cX5_box 45 = .ok (.bipush 32, 2) := by decide +kernel
theorem dX5_box_47 : decode cX5_box 47 = .ok (.invokestatic 71, 3) := by decide +kernel
theorem dX5_box_50 : decode cX5_box 50 = .ok (.ifCond .ne 13, 3) := by decide +kernel
theorem dX5_box_53 : decode cX5_box 53 = .ok (.new 75, 3) := by decide +kernel
theorem dX5_box_56 : decode cX5_box 56 = .ok (.dup, 1) := by decide +kernel
theorem dX5_box_57 : decode cX5_box 57 = .ok (.ldc 84, 2) := by decide +kernel
theorem dX5_box_59 : decode cX5_box 59 = .ok (.invokespecial 79, 3) := by decide +kernel
theorem dX5_box_62 : decode cX5_box 62 = .ok (.athrow, 1) := by decide +kernel
theorem dX5_box_63 : decode cX5_box 63 = .ok (.iload 5, 2) := by decide +kernel
theorem dX5_box_65 : decode cX5_box 65 = .ok (.iconst 0, 1) := by decide +kernel
theorem dX5_box_66 : decode cX5_box 66 = .ok (.sipush 255, 3) := by decide +kernel
theorem dX5_box_69 : decode cX5_box 69 = .ok (.invokestatic 71, 3) := by decide +kernel
theorem dX5_box_72 : decode cX5_box 72 = .ok (.ifCond .ne 13, 3) := by decide +kernel
theorem dX5_box_75 : decode cX5_box 75 = .ok (.new 75, 3) := by decide +kernel
theorem dX5_box_78 : decode cX5_box 78 = .ok (.dup, 1) := by decide +kernel
theorem dX5_box_79 : decode cX5_box 79 = .ok (.ldc 77, 2) := by decide +kernel
theorem dX5_box_81 : decode cX5_box 81 = .ok (.invokespecial 79, 3) := by decide +kernel
theorem dX5_box_84 : decode cX5_box 84 = .ok (.athrow, 1) := by decide +kernel
theorem dX5_box_85 : decode cX5_box 85 = .ok (.iconst 0, 1) := by decide +kernel
theorem dX5_box_86 : decode cX5_box 86 = .ok (.istore 6, 2) := by decide +kernel
theorem dX5_box_88 : decode cX5_box 88 = .ok (.iload_n 2, 1) := by decide +kernel
theorem dX5_box_89 : decode cX5_box 89 = .ok (.iconst 0, 1) := by decide +kernel
theorem dX5_box_90 : decode cX5_box 90 = .ok (.invokestatic 86, 3) := by decide +kernel
theorem dX5_box_93 : decode cX5_box 93 = .ok (.istore 7, 2) := by decide +kernel
theorem dX5_box_95 : decode cX5_box 95 = .ok (.iload 7, 2) := by decide +kernel
theorem dX5_box_97 : decode cX5_box 97 = .ok (.iload_n 2, 1) := by decide +kernel
theorem dX5_box_98 : decode cX5_box 98 = .ok (.iload 4, 2) := by decide +kernel
theorem dX5_box_100 : decode cX5_box 100 = .ok (.iadd, 1) := by decide +kernel
theorem dX5_box_101 : decode cX5_box 101 = .ok (.bipush 24, 2) := by decide +kernel
theorem dX5_box_103 : decode cX5_box 103 = .ok (.invokestatic 92, 3) := by decide +kernel
theorem dX5_box_106 : decode cX5_box 106 = .ok (.if_icmp .ge 53, 3) := by decide +kernel
theorem dX5_box_109 : decode cX5_box 109 = .ok (.iload_n 1, 1) := by decide +kernel
theorem dX5_box_110 : decode cX5_box 110 = .ok (.iconst 0, 1) := by decide +kernel
theorem dX5_box_111 : decode cX5_box 111 = .ok (.invokestatic 86, 3) := by decide +kernel
theorem dX5_box_114 : decode cX5_box 114 = .ok (.istore 8, 2) := by decide +kernel
theorem dX5_box_116 : decode cX5_box 116 = .ok (.iload 8, 2) := by decide +kernel
theorem dX5_box_118 : decode cX5_box 118 = .ok (.iload_n 1, 1) := by decide +kernel
theorem dX5_box_119 : decode cX5_box 119 = .ok (.iload_n 3, 1) := by decide +kernel
theorem dX5_box_120 : decode cX5_box 120 = .ok (.iadd, 1) := by decide +kernel
theorem dX5_box_121 : decode cX5_box 121 = .ok (.bipush 32, 2) := by decide +kernel
theorem dX5_box_123 : decode cX5_box 123 = .ok (.invokestatic 92, 3) := by decide +kernel
theorem dX5_box_126 : decode cX5_box 126 = .ok (.if_icmp .ge 27, 3) := by decide +kernel
theorem dX5_box_129 : decode cX5_box 129 = .ok (.aload_n 0, 1) := by decide +kernel
theorem dX5_box_130 : decode cX5_box 130 = .ok (.getfield 9, 3) := by decide +kernel
theorem dX5_box_133 : decode cX5_box 133 = .ok (.iload 7, 2) := by decide +kernel
theorem dX5_box_135 : decode cX5_box 135 = .ok (.bipush 32, 2) := by decide +kernel
theorem dX5_box_137 : decode cX5_box 137 = .ok (.imul, 1) := by decide +kernel
theorem dX5_box_138 : decode cX5_box 138 = .ok (.iload 8, 2) := by decide +kernel
theorem dX5_box_140 : decode cX5_box 140 = .ok (.iadd, 1) := by decide +kernel
theorem dX5_box_141 : decode cX5_box 141 = .ok (.iload 5, 2) := by decide +kernel
theorem dX5_box_143 : decode cX5_box 143 = .ok (.iastore, 1) := by decide +kernel
theorem dX5_box_144 : decode cX5_box 144 = .ok (.iinc 6 1, 3) := by decide +kernel
theorem dX5_box_147 : decode cX5_box 147 = .ok (.iinc 8 1, 3) := by decide +kernel
theorem dX5_box_150 : decode cX5_box 150 = .ok (.goto (-34), 3) := by decide +kernel
theorem dX5_box_153 : decode cX5_box 153 = .ok (.iinc 7 1, 3) := by decide +kernel
theorem dX5_box_156 : decode cX5_box 156 = .ok (.goto (-61), 3) := by decide +kernel
theorem dX5_box_159 : decode cX5_box 159 = .ok (.iload 6, 2) := by decide +kernel
theorem dX5_box_161 : decode cX5_box 161 = .ok (.ireturn, 1) := by decide +kernel
set_option maxRecDepth 20000 in
theorem ggX5_ramp_X5_isWithin : GoodIn wsX5_ramp wsX5_isWithin := goodIn_r _ [7] (by decide +kernel) (by decide +kernel)
set_option maxRecDepth 20000 in
theorem gX5_ramp_X5_isWithin : GoodIn wsX5_ramp (va_wsS RX5 71 yX5_isWithin wsX5_isWithin) := goodIn_app (goodIn_of _ (by decide +kernel)) ggX5_ramp_X5_isWithin
set_option maxRecDepth 20000 in
theorem ggX5_ramp_X5_clip : GoodIn wsX5_ramp wsX5_clip := goodIn_r _ [10] (by decide +kernel) (by decide +kernel)
set_option maxRecDepth 20000 in
theorem gX5_ramp_X5_clip : GoodIn wsX5_ramp (va_wsS RX5 99 yX5_clip wsX5_clip) := goodIn_app (goodIn_of _ (by decide +kernel)) ggX5_ramp_X5_clip
theorem dX5_ramp_0 : decode cX5_ramp 0 = .ok (.iload_n 1, 1) := by decide +kernel
theorem dX5_ramp_1 : decode cX5_ramp 1 = .ok (.sipush (-255), 3) := by decide +kernel
theorem dX5_ramp_4 : decode cX5_ramp 4 = .ok (.sipush 255, 3) := by decide +kernel
theorem dX5_ramp_7 : decode cX5_ramp 7 = .ok (.invokestatic 71, 3) := by decide +kernel
theorem dX5_ramp_10 : decode cX5_ramp 10 = .ok (.ifCond .ne 13, 3) := by decide +kernel
theorem dX5_ramp_13 : decode cX5_ramp 13 = .ok (.new 75, 3) := by decide +kernel
theorem dX5_ramp_16 : decode cX5_ramp 16 = .ok (.dup, 1) := by decide +kernel
theorem dX5_ramp_17 : decode cX5_ramp 17 = .ok (.ldc 95, 2) := by decide +kernel
theorem dX5_ramp_19 : decode cX5_ramp 19 = .ok (.invokespecial 79, 3) := by decide +kernel
theorem dX5_ramp_22 : decode cX5_ramp 22 = .ok (.athrow, 1) := by decide +kernel
theorem dX5_ramp_23 : decode cX5_ramp 23 = .ok (.iload_n 2, 1) := by decide +kernel
theorem dX5_ramp_24 : decode cX5_ramp 24 = .ok (.bipush (-80), 2) := by decide +kernel
theorem dX5_ramp_26 : decode cX5_ramp 26 = .ok (.bipush 80, 2) := by decide +kernel
theorem dX5_ramp_28 : decode cX5_ramp 28 = .ok (.invokestatic 71, 3) := by decide +kernel
theorem dX5_ramp_31 : decode cX5_ramp 31 = .ok (.ifCond .eq 14, 3) := by decide +kernel
theorem dX5_ramp_34 : decode cX5_ramp 34 = .ok (.iload_n 3, 1) := by decide +kernel
theorem dX5_ramp_35 : decode cX5_ramp 35 = .ok (.bipush (-80), 2) := by decide +kernel
theorem dX5_ramp_37 : decode cX5_ramp 37 = .ok (.bipush 80, 2) := by decide +kernel
theorem dX5_ramp_39 : decode cX5_ramp 39 = .ok (.invokestatic 71, 3) := by decide +kernel
theorem dX5_ramp_42 : decode cX5_ramp 42 = .ok (.ifCond .ne 13, 3) := by decide +kernel
theorem dX5_ramp_45 : decode cX5_ramp 45 = .ok (.new 75, 3) := by decide +kernel
theorem dX5_ramp_48 : decode cX5_ramp 48 = .ok (.dup, 1) := by decide +kernel
theorem dX5_ramp_49 : decode cX5_ramp 49 = .ok (.ldc 97, 2) := by decide +kernel
theorem dX5_ramp_51 : decode cX5_ramp 51 = .ok (.invokespecial 79, 3) := by decide +kernel
theorem dX5_ramp_54 : decode cX5_ramp 54 = .ok (.athrow, 1) := by decide +kernel
theorem dX5_ramp_55 : decode cX5_ramp 55 = .ok (.iconst 0, 1) := by decide +kernel
theorem dX5_ramp_56 : decode cX5_ramp 56 = .ok (.istore 4, 2) := by decide +kernel
theorem dX5_ramp_58 : decode cX5_ramp 58 = .ok (.iconst 0, 1) := by decide +kernel
theorem dX5_ramp_59 : decode cX5_ramp 59 = .ok (.istore 5, 2) := by decide +kernel
theorem dX5_ramp_61 : decode cX5_ramp 61 = .ok (.iload 5, 2) := by decide +kernel
theorem dX5_ramp_63 : decode cX5_ramp 63 = .ok (.sipush 768, 3) := by decide +kernel
theorem dX5_ramp_66 : decode cX5_ramp 66 = .ok (.if_icmp .ge 62, 3) := by decide +kernel
theorem dX5_ramp_69 : decode cX5_ramp 69 = .ok (.iload_n 2, 1) := by decide +kernel
theorem dX5_ramp_70 : decode cX5_ramp 70 = .ok (.iload 5, 2) := by decide +kernel
theorem dX5_ramp_72 : decode cX5_ramp 72 = .ok (.bipush 32, 2) := by decide +kernel
theorem dX5_ramp_74 : decode cX5_ramp 74 = .ok (.irem, 1) := by decide +kernel
theorem dX5_ramp_75 : decode cX5_ramp 75 = .ok (.imul, 1) := by decide +kernel
theorem dX5_ramp_76 : decode cX5_ramp 76 = .ok (.iload_n 3, 1) := by decide +kernel
theorem dX5_ramp_77 : decode cX5_ramp 77 = .ok (.iload 5, 2) := by decide +kernel
theorem dX5_ramp_79 : decode cX5_ramp 79 = .ok (.bipush 32, 2) := by decide +kernel
theorem dX5_ramp_81 : decode cX5_ramp 81 = .ok (.idiv, 1) := by decide +kernel
theorem dX5_ramp_82 : decode cX5_ramp 82 = .ok (.imul, 1) := by decide +kernel
theorem dX5_ramp_83 : decode cX5_ramp 83 = .ok (.iadd, 1) := by decide +kernel
theorem dX5_ramp_84 : decode cX5_ramp 84 = .ok (.istore 6, 2) := by decide +kernel
theorem dX5_ramp_86 : decode cX5_ramp 86 = .ok (.aload_n 0, 1) := by decide +kernel
theorem dX5_ramp_87 : decode cX5_ramp 87 = .ok (.getfield 9, 3) := by decide +kernel
theorem dX5_ramp_90 : decode cX5_ramp 90 = .ok (.iload 5, 2) := by decide +kernel
theorem dX5_ramp_92 : decode cX5_ramp 92 = .ok (.aload_n 0, 1) := by decide +kernel
theorem dX5_ramp_93 : decode cX5_ramp 93 = .ok (.getfield 9, 3) := by decide +kernel
theorem dX5_ramp_96 : decode cX5_ramp 96 = .ok (.iload 5, 2) := by decide +kernel
theorem dX5_ramp_98 : decode cX5_ramp 98 = .ok (.iaload, 1) := by decide +kernel
theorem dX5_ramp_99 : decode cX5_ramp 99 = .ok (.iload_n 1, 1) := by decide +kernel
theorem dX5_ramp_100 : decode cX5_ramp 100 = .ok (.iadd, 1) := by decide +kernel
theorem dX5_ramp_101 : decode cX5_ramp 101 = .ok (.iload 6, 2) := by decide +kernel
theorem dX5_ramp_103 : decode cX5_ramp 103 = .ok (.iconst 3, 1) := by decide +kernel
theorem dX5_ramp_104 : decode cX5_ramp 104 = .ok (.ishr, 1) := by decide +kernel
theorem dX5_ramp_105 : decode cX5_ramp 105 = .ok (.iadd, 1) := by decide +kernel
theorem dX5_ramp_106 : decode cX5_ramp 106 = .ok (.invokestatic 99, 3) := by decide +kernel
theorem dX5_ramp_109 : decode cX5_ramp 109 = .ok (.iastore, 1) := by decide +kernel
theorem dX5_ramp_110 : decode cX5_ramp 110 = .ok (.iload 4, 2) := by decide +kernel
theorem dX5_ramp_112 : decode cX5_ramp 112 = .ok (.aload_n 0, 1) := by decide +kernel
theorem dX5_ramp_113 : decode cX5_ramp 113 = .ok (.getfield 9, 3) := by decide +kernel
theorem dX5_ramp_116 : decode cX5_ramp 116 = .ok (.iload 5, 2) := by decide +kernel
theorem dX5_ramp_118 : decode cX5_ramp 118 = .ok (.iaload, 1) := by decide +kernel
theorem dX5_ramp_119 : decode cX5_ramp 119 = .ok (.iadd, 1) := by decide +kernel
theorem dX5_ramp_120 : decode cX5_ramp 120 = .ok (.istore 4, 2) := by decide +kernel
theorem dX5_ramp_122 : decode cX5_ramp 122 = .ok (.iinc 5 1, 3) := by decide +kernel
theorem dX5_ramp_125 : decode cX5_ramp 125 = .ok (.goto (-64), 3) := by decide +kernel
theorem dX5_ramp_128 : decode cX5_ramp 128 = .ok (.iload 4, 2) := by decide +kernel
theorem dX5_ramp_130 : decode cX5_ramp 130 = .ok (.ireturn, 1) := by decide +kernel
set_option maxRecDepth 20000 in
theorem ggX5_noise_X5_isWithin : GoodIn wsX5_noise wsX5_isWithin := goodIn_r _ [9] (by decide +kernel) (by decide +kernel)
set_option maxRecDepth 20000 in
theorem gX5_noise_X5_isWithin : GoodIn wsX5_noise (va_wsS RX5 71 yX5_isWithin wsX5_isWithin) := goodIn_app (goodIn_of _ (by decide +kernel)) ggX5_noise_X5_isWithin
set_option maxRecDepth 20000 in
theorem ggX5_noise_X5_clip : GoodIn wsX5_noise wsX5_clip := goodIn_r _ [12] (by decide +kernel) (by decide +kernel)
set_option maxRecDepth 20000 in
theorem gX5_noise_X5_clip : GoodIn wsX5_noise (va_wsS RX5 99 yX5_clip wsX5_clip) := goodIn_app (goodIn_of _ (by decide +kernel)) ggX5_noise_X5_clip
theorem dX5_noise_0 : decode cX5_noise 0 = .ok (.iload_n 1, 1) := by decide +kernel
theorem dX5_noise_1 : decode cX5_noise 1 = .ok (.iconst 0, 1) := by decide +kernel
theorem dX5_noise_2 : decode cX5_noise 2 = .ok (.ldc 103, 2) := by decide +kernel
theorem dX5_noise_4 : decode cX5_noise 4 = .ok (.invokestatic 71, 3) := by decide +kernel
theorem dX5_noise_7 : decode cX5_noise 7 = .ok (.ifCond .ne 13, 3) := by decide +kernel
theorem dX5_noise_10 : decode cX5_noise 10 = .ok (.new 75, 3) := by decide +kernel
theorem dX5_noise_13 : decode cX5_noise 13 = .ok (.dup, 1) := by decide +kernel
theorem dX5_noise_14 : decode cX5_noise 14 = .ok (.ldc 104, 2) := by decide +kernel
theorem dX5_noise_16 : decode cX5_noise 16 = .ok (.invokespecial 79, 3) := by decide +kernel
theorem dX5_noise_19 : decode cX5_noise 19 = .ok (.athrow, 1) := by decide +kernel
theorem dX5_noise_20 : decode cX5_noise 20 = .ok (.iload_n 2, 1) := by decide +kernel
theorem dX5_noise_21 : decode cX5_noise 21 = .ok (.iconst 0, 1) := by decide +kernel
theorem dX5_noise_22 : decode cX5_noise 22 = .ok (.bipush 60, 2) := by decide +kernel
theorem dX5_noise_24 : decode cX5_noise 24 = .ok (.invokestatic 71, 3) := by decide +kernel
theorem dX5_noise_27 : decode cX5_noise 27 = .ok (.ifCond .ne 13, 3) := by decide +kernel
theorem dX5_noise_30 : decode cX5_noise 30 = .ok (.new 75, 3) := by decide +kernel
theorem dX5_noise_33 : decode cX5_noise 33 = .ok (.dup, 1) := by decide +kernel
theorem dX5_noise_34 : decode cX5_noise 34 = .ok (.ldc 106, 2) := by decide +kernel
theorem dX5_noise_36 : decode cX5_noise 36 = .ok (.invokespecial 79, 3) := by decide +kernel
theorem dX5_noise_39 : decode cX5_noise 39 = .ok (.athrow, 1) := by decide +kernel
theorem dX5_noise_40 : decode cX5_noise 40 = .ok (.iload_n 1, 1) := by decide +kernel
theorem dX5_noise_41 : decode cX5_noise 41 = .ok (.istore_n 3, 1) := by decide +kernel
theorem dX5_noise_42 : decode cX5_noise 42 = .ok (.iconst 0, 1) := by decide +kernel
theorem dX5_noise_43 : decode cX5_noise 43 = .ok (.istore 4, 2) := by decide +kernel
theorem dX5_noise_45 : decode cX5_noise 45 = .ok (.iload 4, 2) := by decide +kernel
theorem dX5_noise_47 : decode cX5_noise 47 = .ok (.sipush 768, 3) := by decide +kernel
theorem dX5_noise_50 : decode cX5_noise 50 = .ok (.if_icmp .ge 51, 3) := by decide +kernel
theorem dX5_noise_53 : decode cX5_noise 53 = .ok (.iload_n 3, 1) := by decide +kernel
theorem dX5_noise_54 : decode cX5_noise 54 = .ok (.sipush 1103, 3) := by decide +kernel
theorem dX5_noise_57 : decode cX5_noise 57 = .ok (.imul, 1) := by decide +kernel
theorem dX5_noise_58 : decode cX5_noise 58 = .ok (.sipush 12345, 3) := by decide +kernel
theorem dX5_noise_61 : decode cX5_noise 61 = .ok (.iadd, 1) := by decide +kernel
theorem dX5_noise_62 : decode cX5_noise 62 = .ok (.ldc 108, 2) := by decide +kernel
theorem dX5_noise_64 : decode cX5_noise 64 = .ok (.irem, 1) := by decide +kernel
theorem dX5_noise_65 : decode cX5_noise 65 = .ok (.istore_n 3, 1) := by decide +kernel
theorem dX5_noise_66 : decode cX5_noise 66 = .ok (.aload_n 0, 1) := by decide +kernel
theorem dX5_noise_67 : decode cX5_noise 67 = .ok (.getfield 9, 3) := by decide +kernel
theorem dX5_noise_70 : decode cX5_noise 70 = .ok (.iload 4, 2) := by decide +kernel
theorem dX5_noise_72 : decode cX5_noise 72 = .ok (.aload_n 0, 1) := by decide +kernel
theorem dX5_noise_73 : decode cX5_noise 73 = .ok (.getfield 9, 3) := by decide +kernel
theorem dX5_noise_76 : decode cX5_noise 76 = .ok (.iload 4, 2) := by decide +kernel
theorem dX5_noise_78 : decode cX5_noise 78 = .ok (.iaload, 1) := by decide +kernel
theorem dX5_noise_79 : decode cX5_noise 79 = .ok (.iload_n 3, 1) := by decide +kernel
theorem dX5_noise_80 : decode cX5_noise 80 = .ok (.iconst 4, 1) := by decide +kernel
theorem dX5_noise_81 : decode cX5_noise 81 = .ok (.ishr, 1) := by decide +kernel
theorem dX5_noise_82 : decode cX5_noise 82 = .ok (.iconst 2, 1) := by decide +kernel
theorem dX5_noise_83 : decode cX5_noise 83 = .ok (.iload_n 2, 1) := by decide +kernel
theorem dX5_noise_84 : decode cX5_noise 84 = .ok (.imul, 1) := by decide +kernel
theorem dX5_noise_85 : decode cX5_noise 85 = .ok (.iconst 1, 1) := by decide +kernel
theorem dX5_noise_86 : decode cX5_noise 86 = .ok (.iadd, 1) := by decide +kernel
theorem dX5_noise_87 : decode cX5_noise 87 = .ok (.irem, 1) := by decide +kernel
theorem dX5_noise_88 : decode cX5_noise 88 = .ok (.iadd, 1) := by decide +kernel
theorem dX5_noise_89 : decode cX5_noise 89 = .ok (.iload_n 2, 1) := by decide +kernel
theorem dX5_noise_90 : decode cX5_noise 90 = .ok (.isub, 1) := by decide +kernel
theorem dX5_noise_91 : decode cX5_noise 91 = .ok (.invokestatic 99, 3) := by decide +kernel
theorem dX5_noise_94 : decode cX5_noise 94 = .ok (.iastore, 1) := by decide +kernel
theorem dX5_noise_95 : decode cX5_noise 95 = .ok (.iinc 4 1, 3) := by decide +kernel
theorem dX5_noise_98 : decode cX5_noise 98 = .ok (.goto (-53), 3) := by decide +kernel
theorem dX5_noise_101 : decode cX5_noise 101 = .ok (.iload_n 3, 1) := by decide +kernel
theorem dX5_noise_102 : decode cX5_noise 102 = .ok (.ireturn, 1) := by decide +kernel
set_option maxRecDepth 20000 in
theorem ggX5_shift_X5_isWithin : GoodIn wsX5_shift wsX5_isWithin := goodIn_r _ [12] (by decide +kernel) (by decide +kernel)
set_option maxRecDepth 20000 in
theorem gX5_shift_X5_isWithin : GoodIn wsX5_shift (va_wsS RX5 71 yX5_isWithin wsX5_isWithin) := goodIn_app (goodIn_of _ (by decide +kernel)) ggX5_shift_X5_isWithin
set_option maxRecDepth 20000 in
theorem ggX5_shift_X5_onRow : GoodIn wsX5_shift wsX5_onRow := goodIn_r _ [15, 16, 17, 18, 19, 20, 21, 22] (by decide +kernel) (by decide +kernel)
set_option maxRecDepth 20000 in
theorem gX5_shift_X5_onRow : GoodIn wsX5_shift (va_wsS RX5 117 yX5_onRow wsX5_onRow) := goodIn_app (goodIn_of _ (by decide +kernel)) ggX5_shift_X5_onRow
theorem dX5_shift_0 : decode cX5_shift 0 = .ok (.iload_n 1, 1) := by decide +kernel
theorem dX5_shift_1 : decode cX5_shift 1 = .ok (.bipush (-16), 2) := by decide +kernel
theorem dX5_shift_3 : decode cX5_shift 3 = .ok (.bipush 16, 2) := by decide +kernel
theorem dX5_shift_5 : decode cX5_shift 5 = .ok (.invokestatic 71, 3) := by decide +kernel
theorem dX5_shift_8 : decode cX5_shift 8 = .ok (.ifCond .eq 14, 3) := by decide +kernel
theorem dX5_shift_11 : decode cX5_shift 11 = .ok (.iload_n 2, 1) := by decide +kernel
theorem dX5_shift_12 : decode cX5_shift 12 = .ok (.bipush (-16), 2) := by decide +kernel
theorem dX5_shift_14 : decode cX5_shift 14 = .ok (.bipush 16, 2) := by decide +kernel
theorem dX5_shift_16 : decode cX5_shift 16 = .ok (.invokestatic 71, 3) := by decide +kernel
theorem dX5_shift_19 : decode cX5_shift 19 = .ok (.ifCond .ne 13, 3) := by decide +kernel
theorem dX5_shift_22 : decode cX5_shift 22 = .ok (.new 75, 3) := by decide +kernel
theorem dX5_shift_25 : decode cX5_shift 25 = .ok (.dup, 1) := by decide +kernel
theorem dX5_shift_26 : decode cX5_shift 26 = .ok (.ldc 109, 2) := by decide +kernel
theorem dX5_shift_28 : decode cX5_shift 28 = .ok (.invokespecial 79, 3) := by decide +kernel
theorem dX5_shift_31 : decode cX5_shift 31 = .ok (.athrow, 1) := by decide +kernel
theorem dX5_shift_32 : decode cX5_shift 32 = .ok (.aload_n 0, 1) := by decide +kernel
theorem dX5_shift_33 : decode cX5_shift 33 = .ok (.getfield 9, 3) := by decide +kernel
theorem dX5_shift_36 : decode cX5_shift 36 = .ok (.iconst 0, 1) := by decide +kernel
theorem dX5_shift_37 : decode cX5_shift 37 = .ok (.aload_n 0, 1) := by decide +kernel
theorem dX5_shift_38 : decode cX5_shift 38 = .ok (.getfield 40, 3) := by decide +kernel
theorem dX5_shift_41 : decode cX5_shift 41 = .ok (.iconst 0, 1) := by decide +kernel
theorem dX5_shift_42 : decode cX5_shift 42 = .ok (.sipush 768, 3) := by decide +kernel
theorem dX5_shift_45 : decode cX5_shift 45 = .ok (.invokestatic 111, 3) := by decide +kernel
theorem dX5_shift_48 : decode cX5_shift 48 = .ok (.iconst 0, 1) := by decide +kernel
theorem dX5_shift_49 : decode cX5_shift 49 = .ok (.istore_n 3, 1) := by decide +kernel
theorem dX5_shift_50 : decode cX5_shift 50 = .ok (.iconst 0, 1) := by decide +kernel
theorem dX5_shift_51 : decode cX5_shift 51 = .ok (.istore 4, 2) := by decide +kernel
theorem dX5_shift_53 : decode cX5_shift 53 = .ok (.iload 4, 2) := by decide +kernel
theorem dX5_shift_55 : decode cX5_shift 55 = .ok (.sipush 768, 3) := by decide +kernel
theorem dX5_shift_58 : decode cX5_shift 58 = .ok (.if_icmp .ge 82, 3) := by decide +kernel
theorem dX5_shift_61 : decode cX5_shift 61 = .ok (.iload 4, 2) := by decide +kernel
theorem dX5_shift_63 : decode cX5_shift 63 = .ok (.bipush 32, 2) := by decide +kernel
theorem dX5_shift_65 : decode cX5_shift 65 = .ok (.irem, 1) := by decide +kernel
theorem dX5_shift_66 : decode cX5_shift 66 = .ok (.iload_n 1, 1) := by decide +kernel
theorem dX5_shift_67 : decode cX5_shift 67 = .ok (.isub, 1) := by decide +kernel
theorem dX5_shift_68 : decode cX5_shift 68 = .ok (.bipush 32, 2) := by decide +kernel
theorem dX5_shift_70 : decode cX5_shift 70 = .ok (.invokestatic 117, 3) := by decide +kernel
theorem dX5_shift_73 : decode cX5_shift 73 = .ok (.istore 5, 2) := by decide +kernel
theorem dX5_shift_75 : decode cX5_shift 75 = .ok (.iload 4, 2) := by decide +kernel
theorem dX5_shift_77 : decode cX5_shift 77 = .ok (.bipush 32, 2) := by decide +kernel
theorem dX5_shift_79 : decode cX5_shift 79 = .ok (.idiv, 1) := by decide +kernel
theorem dX5_shift_80 : decode cX5_shift 80 = .ok (.iload_n 2, 1) := by decide +kernel
theorem dX5_shift_81 : decode cX5_shift 81 = .ok (.isub, 1) := by decide +kernel
theorem dX5_shift_82 : decode cX5_shift 82 = .ok (.bipush 24, 2) := by decide +kernel
theorem dX5_shift_84 : decode cX5_shift 84 = .ok (.invokestatic 117, 3) := by decide +kernel
theorem dX5_shift_87 : decode cX5_shift 87 = .ok (.istore 6, 2) := by decide +kernel
theorem dX5_shift_89 : decode cX5_shift 89 = .ok (.aload_n 0, 1) := by decide +kernel
theorem dX5_shift_90 : decode cX5_shift 90 = .ok (.getfield 9, 3) := by decide +kernel
theorem dX5_shift_93 : decode cX5_shift 93 = .ok (.iload 4, 2) := by decide +kernel
theorem dX5_shift_95 : decode cX5_shift 95 = .ok (.aload_n 0, 1) := by decide +kernel
theorem dX5_shift_96 : decode cX5_shift 96 = .ok (.getfield 40, 3) := by decide +kernel
theorem dX5_shift_99 : decode cX5_shift 99 = .ok (.iload 6, 2) := by decide +kernel
theorem dX5_shift_101 : decode cX5_shift 101 = .ok (.bipush 32, 2) := by decide +kernel
theorem dX5_shift_103 : decode cX5_shift 103 = .ok (.imul, 1) := by decide +kernel
theorem dX5_shift_104 : decode cX5_shift 104 = .ok (.iload 5, 2) := by decide +kernel
theorem dX5_shift_106 : decode cX5_shift 106 = .ok (.iadd, 1) := by decide +kernel
theorem dX5_shift_107 : decode cX5_shift 107 = .ok (.iaload, 1) := by decide +kernel
theorem dX5_shift_108 : decode cX5_shift 108 = .ok (.iastore, 1) := by decide +kernel
theorem dX5_shift_109 : decode cX5_shift 109 = .ok (.iload_n 3, 1) := by decide +kernel
theorem dX5_shift_110 : decode cX5_shift 110 = .ok (.aload_n 0, 1) := by decide +kernel
theorem dX5_shift_111 : decode cX5_shift 111 = .ok (.getfield 9, 3) := by decide +kernel
theorem dX5_shift_114 : decode cX5_shift 114 = .ok (.iload 4, 2) := by decide +kernel
theorem dX5_shift_116 : decode cX5_shift 116 = .ok (.iaload, 1) := by decide +kernel
theorem dX5_shift_117 : decode cX5_shift 117 = .ok (.aload_n 0, 1) := by decide +kernel
theorem dX5_shift_118 : decode cX5_shift 118 = .ok (.getfield 40, 3) := by decide +kernel
theorem dX5_shift_121 : decode cX5_shift 121 = .ok (.iload 4, 2) := by decide +kernel
theorem dX5_shift_123 : decode cX5_shift 123 = .ok (.iaload, 1) := by decide +kernel
theorem dX5_shift_124 : decode cX5_shift 124 = .ok (.if_icmp .ne 7, 3) := by decide +kernel
theorem dX5_shift_127 : decode cX5_shift 127 = .ok (.iconst 0, 1) := by decide +kernel
theorem dX5_shift_128 : decode cX5_shift 128 = .ok (.goto 4, 3) := by decide +kernel
theorem dX5_shift_131 : decode cX5_shift 131 = .ok (.iconst 1, 1) := by decide +kernel
theorem dX5_shift_132 : decode cX5_shift 132 = .ok (.iadd, 1) := by decide +kernel
theorem dX5_shift_133 : decode cX5_shift 133 = .ok (.istore_n 3, 1) := by decide +kernel
theorem dX5_shift_134 : decode cX5_shift 134 = .ok (.iinc 4 1, 3) := by decide +kernel
theorem dX5_shift_137 : decode cX5_shift 137 = .ok (.goto (-84), 3) := by decide +kernel
theorem dX5_shift_140 : decode cX5_shift 140 = .ok (.iload_n 3, 1) := by decide +kernel
theorem dX5_shift_141 : decode cX5_shift 141 = .ok (.ireturn, 1) := by decide +kernel
set_option maxRecDepth 20000 in
theorem ggX5_setStep_X5_isWithin : GoodIn wsX5_setStep wsX5_isWithin := goodIn_r _ [7] (by decide +kernel) (by decide +kernel)
set_option maxRecDepth 20000 in
theorem gX5_setStep_X5_isWithin : GoodIn wsX5_setStep (va_wsS RX5 71 yX5_isWithin wsX5_isWithin) := goodIn_app (goodIn_of _ (by decide +kernel)) ggX5_setStep_X5_isWithin
theorem dX5_setStep_0 : decode cX5_setStep 0 = .ok (.iload_n 1, 1) := by decide +kernel
theorem dX5_setStep_1 : decode cX5_setStep 1 = .ok (.iconst 1, 1) := by decide +kernel
theorem dX5_setStep_2 : decode cX5_setStep 2 = .ok (.bipush 60, 2) := by decide +kernel
theorem dX5_setStep_4 : decode cX5_setStep 4 = .ok (.invokestatic 71, 3) := by decide +kernel
theorem dX5_setStep_7 : decode cX5_setStep 7 = .ok (.ifCond .ne 13, 3) := by decide +kernel
theorem dX5_setStep_10 : decode cX5_setStep 10 = .ok (.new 75, 3) := by decide +kernel
theorem dX5_setStep_13 : decode cX5_setStep 13 = .ok (.dup, 1) := by decide +kernel
theorem dX5_setStep_14 : decode cX5_setStep 14 = .ok (.ldc 123, 2) := by decide +kernel
theorem dX5_setStep_16 : decode cX5_setStep 16 = .ok (.invokespecial 79, 3) := by decide +kernel
theorem dX5_setStep_19 : decode cX5_setStep 19 = .ok (.athrow, 1) := by decide +kernel
theorem dX5_setStep_20 : decode cX5_setStep 20 = .ok (.aload_n 0, 1) := by decide +kernel
theorem dX5_setStep_21 : decode cX5_setStep 21 = .ok (.getfield 55, 3) := by decide +kernel
theorem dX5_setStep_24 : decode cX5_setStep 24 = .ok (.istore_n 2, 1) := by decide +kernel
theorem dX5_setStep_25 : decode cX5_setStep 25 = .ok (.aload_n 0, 1) := by decide +kernel
theorem dX5_setStep_26 : decode cX5_setStep 26 = .ok (.iload_n 1, 1) := by decide +kernel
theorem dX5_setStep_27 : decode cX5_setStep 27 = .ok (.putfield 55, 3) := by decide +kernel
theorem dX5_setStep_30 : decode cX5_setStep 30 = .ok (.iload_n 2, 1) := by decide +kernel
theorem dX5_setStep_31 : decode cX5_setStep 31 = .ok (.ireturn, 1) := by decide +kernel
set_option maxRecDepth 20000 in
theorem ggX5_setTarget_X5_isWithin : GoodIn wsX5_setTarget wsX5_isWithin := goodIn_r _ [7] (by decide +kernel) (by decide +kernel)
set_option maxRecDepth 20000 in
theorem gX5_setTarget_X5_isWithin : GoodIn wsX5_setTarget (va_wsS RX5 71 yX5_isWithin wsX5_isWithin) := goodIn_app (goodIn_of _ (by decide +kernel)) ggX5_setTarget_X5_isWithin
theorem dX5_setTarget_0 : decode cX5_setTarget 0 = .ok (.iload_n 1, 1) := by decide +kernel
theorem dX5_setTarget_1 : decode cX5_setTarget 1 = .ok (.iconst 0, 1) := by decide +kernel
theorem dX5_setTarget_2 : decode cX5_setTarget 2 = .ok (.sipush 400, 3) := by decide +kernel
theorem dX5_setTarget_5 : decode cX5_setTarget 5 = .ok (.invokestatic 71, 3) := by decide +kernel
theorem dX5_setTarget_8 : decode cX5_setTarget 8 = .ok (.ifCond .ne 13, 3) := by decide +kernel
theorem dX5_setTarget_11 : decode cX5_setTarget 11 = .ok (.new 75, 3) := by decide +kernel
theorem dX5_setTarget_14 : decode cX5_setTarget 14 = .ok (.dup, 1) := by decide +kernel
theorem dX5_setTarget_15 : decode cX5_setTarget 15 = .ok (.ldc 125, 2) := by decide +kernel
theorem dX5_setTarget_17 : decode cX5_setTarget 17 = .ok (.invokespecial 79, 3) := by decide +kernel
theorem dX5_setTarget_20 : decode cX5_setTarget 20 = .ok (.athrow, 1) := by decide +kernel
theorem dX5_setTarget_21 : decode cX5_setTarget 21 = .ok (.aload_n 0, 1) := by decide +kernel
theorem dX5_setTarget_22 : decode cX5_setTarget 22 = .ok (.getfield 58, 3) := by decide +kernel
theorem dX5_setTarget_25 : decode cX5_setTarget 25 = .ok (.istore_n 2, 1) := by decide +kernel
theorem dX5_setTarget_26 : decode cX5_setTarget 26 = .ok (.aload_n 0, 1) := by decide +kernel
theorem dX5_setTarget_27 : decode cX5_setTarget 27 = .ok (.iload_n 1, 1) := by decide +kernel
theorem dX5_setTarget_28 : decode cX5_setTarget 28 = .ok (.putfield 58, 3) := by decide +kernel
theorem dX5_setTarget_31 : decode cX5_setTarget 31 = .ok (.iload_n 2, 1) := by decide +kernel
theorem dX5_setTarget_32 : decode cX5_setTarget 32 = .ok (.ireturn, 1) := by decide +kernel
theorem dX5_setSmoothing_0 : decode cX5_setSmoothing 0 = .ok (.aload_n 0, 1) := by decide +kernel
theorem dX5_setSmoothing_1 : decode cX5_setSmoothing 1 = .ok (.getfield 64, 3) := by decide +kernel
theorem dX5_setSmoothing_4 : decode cX5_setSmoothing 4 = .ok (.istore_n 2, 1) := by decide +kernel
theorem dX5_setSmoothing_5 : decode cX5_setSmoothing 5 = .ok (.aload_n 0, 1) := by decide +kernel
theorem dX5_setSmoothing_6 : decode cX5_setSmoothing 6 = .ok (.iload_n 1, 1) := by decide +kernel
theorem dX5_setSmoothing_7 : decode cX5_setSmoothing 7 = .ok (.putfield 64, 3) := by decide +kernel
theorem dX5_setSmoothing_10 : decode cX5_setSmoothing 10 = .ok (.iload_n 2, 1) := by decide +kernel
theorem dX5_setSmoothing_11 : decode cX5_setSmoothing 11 = .ok (.ireturn, 1) := by decide +kernel
set_option maxRecDepth 20000 in
theorem ggX5_askKey_X5_isKeyDue : GoodIn wsX5_askKey wsX5_isKeyDue := goodIn_r _ [6, 7, 1, 8, 9, 10, 11, 12, 13, 14, 15, 16, 17, 18, 19, 20, 21, 22, 23] (by decide +kernel) (by decide +kernel)
set_option maxRecDepth 20000 in
theorem gX5_askKey_X5_isKeyDue : GoodIn wsX5_askKey (wsV RX5 129 RX5 yX5_isKeyDue wsX5_isKeyDue) := goodIn_app (goodIn_of _ (by decide +kernel)) ggX5_askKey_X5_isKeyDue
theorem dX5_askKey_0 : decode cX5_askKey 0 = .ok (.aload_n 0, 1) := by decide +kernel
theorem dX5_askKey_1 : decode cX5_askKey 1 = .ok (.invokevirtual 129, 3) := by decide +kernel
theorem dX5_askKey_4 : decode cX5_askKey 4 = .ok (.istore_n 1, 1) := by decide +kernel
theorem dX5_askKey_5 : decode cX5_askKey 5 = .ok (.aload_n 0, 1) := by decide +kernel
theorem dX5_askKey_6 : decode cX5_askKey 6 = .ok (.iconst 1, 1) := by decide +kernel
theorem dX5_askKey_7 : decode cX5_askKey 7 = .ok (.putfield 68, 3) := by decide +kernel
theorem dX5_askKey_10 : decode cX5_askKey 10 = .ok (.iload_n 1, 1) := by decide +kernel
theorem dX5_askKey_11 : decode cX5_askKey 11 = .ok (.ireturn, 1) := by decide +kernel
set_option maxRecDepth 20000 in
theorem ggX5_code_X5_refuseIfFull : GoodIn wsX5_code wsX5_refuseIfFull := goodIn_ca (goodIn_r _ [17, 18, 19, 6, 315, 316, 317, 318, 319, 320, 321, 322, 323, 324, 325, 326, 327, 328] (by decide +kernel) (by decide +kernel)) (goodIn_sub (fun _ h => List.mem_cons_of_mem _ (List.mem_append_right _ h)) (by decide +kernel))
set_option maxRecDepth 20000 in
theorem gX5_code_X5_refuseIfFull : GoodIn wsX5_code (wsV RX5 133 RX5 yX5_refuseIfFull wsX5_refuseIfFull) := goodIn_app (goodIn_of _ (by decide +kernel)) ggX5_code_X5_refuseIfFull
set_option maxRecDepth 20000 in
theorem ggX5_code_X5_draftNext : GoodIn wsX5_code wsX5_draftNext := goodIn_r _ [23, 6, 24, 25, 26, 3, 27, 28, 29, 30, 10, 31, 32, 33, 34, 16, 35, 5, 36, 37, 38, 39, 40, 41, 42, 43, 44, 45, 46, 47, 48, 49, 50, 51, 52, 53, 54, 12, 11, 55, 56, 57, 58, 59, 60, 61, 62, 63, 64, 65, 66, 67, 68, 69, 70, 71, 72, 73, 74, 75, 76, 77, 78, 79, 80, 81, 82, 83, 84, 85, 86, 87, 88, 89, 90, 91, 92, 93, 94, 95, 9, 96, 97, 98, 99, 100, 101, 102, 103, 104, 105, 106, 107, 108, 109, 110, 111, 112, 113, 114, 115, 116, 117, 118, 119, 120, 121, 122, 123, 124, 125, 126, 127, 128, 129, 130, 131, 132, 133, 134, 135, 136, 137, 138, 139, 140, 141, 142, 143, 144, 145, 146, 147, 148, 149, 150, 151, 152, 153, 154, 155, 156, 157, 158, 159, 160, 161, 162, 163, 164, 165, 166, 167, 168, 169, 170, 171, 172, 173, 174, 175, 176, 177, 178, 179, 180, 181, 182, 183, 184, 185, 186, 187, 188, 189, 190, 191, 192, 193, 194, 195, 196, 197, 198, 199, 200, 201, 202, 203, 204, 205, 315, 316, 317, 318, 319, 320, 321, 322, 323, 324, 325, 326, 327, 328, 343, 344, 345, 346, 347, 329, 330, 331, 332, 333, 334, 335, 336, 337, 338, 339, 340, 341, 342, 348, 349, 350, 351] (by decide +kernel) (by decide +kernel)
set_option maxRecDepth 20000 in
theorem gX5_code_X5_draftNext : GoodIn wsX5_code (wsV RX5 136 RX5 yX5_draftNext wsX5_draftNext) := goodIn_app (goodIn_of _ (by decide +kernel)) ggX5_code_X5_draftNext
set_option maxRecDepth 20000 in
theorem ggX5_code_X1_write : GoodIn wsX5_code wsX1_write := goodIn_r _ [210, 211, 212, 213, 214, 145, 146, 147, 215, 216, 217, 209, 218, 219, 220, 221, 222, 223, 224, 225, 226, 227, 228, 229, 230, 231, 232, 233, 234, 235, 236, 237, 238, 239, 240, 241, 242, 243, 244, 245, 94, 95, 9, 96, 97, 98, 16, 99, 246, 247, 248, 249, 250, 251, 252, 101, 102, 103, 104, 253, 254, 255, 256, 257, 258, 259, 260, 261, 262, 263, 264, 265, 352, 353, 354, 355, 329, 330, 331, 332, 333, 334, 335, 336, 337, 338, 339, 340, 341, 342] (by decide +kernel) (by decide +kernel)
set_option maxRecDepth 20000 in
theorem gX5_code_X1_write : GoodIn wsX5_code (wsV RX5 140 RX1 yX1_write wsX1_write) := goodIn_app (goodIn_of _ (by decide +kernel)) ggX5_code_X1_write
set_option maxRecDepth 20000 in
theorem ggX5_code_X2_bytesInAll : GoodIn wsX5_code wsX2_bytesInAll := goodIn_r _ [269, 270, 271, 272, 9, 273, 274, 262, 263, 264, 265, 329, 330, 331, 332, 333, 334, 335, 336, 337, 338, 339, 340, 341, 342] (by decide +kernel) (by decide +kernel)
set_option maxRecDepth 20000 in
theorem gX5_code_X2_bytesInAll : GoodIn wsX5_code (wsV RX5 144 RX2 yX2_bytesInAll wsX2_bytesInAll) := goodIn_app (goodIn_of _ (by decide +kernel)) ggX5_code_X2_bytesInAll
set_option maxRecDepth 20000 in
theorem ggX5_code_X1_copyOfBytes : GoodIn wsX5_code wsX1_copyOfBytes := goodIn_r _ [278, 211, 42, 16, 43, 44, 45, 46, 47, 48, 49, 50, 279, 280, 146, 281, 282, 283, 284, 285, 286, 287, 288, 289, 290, 291, 292, 293, 352, 353, 354, 355] (by decide +kernel) (by decide +kernel)
set_option maxRecDepth 20000 in
theorem gX5_code_X1_copyOfBytes : GoodIn wsX5_code (wsV RX5 148 RX1 yX1_copyOfBytes wsX1_copyOfBytes) := goodIn_app (goodIn_of _ (by decide +kernel)) ggX5_code_X1_copyOfBytes
set_option maxRecDepth 20000 in
theorem ggX5_code_X2_init : GoodIn wsX5_code wsX2_init := goodIn_r _ [295, 296, 297, 298, 288, 205, 97, 104, 299, 300, 301, 265, 302, 303, 304, 305, 306, 307, 308, 309, 329, 330, 331, 332, 333, 334, 335, 336, 337, 338, 339, 340, 341, 342] (by decide +kernel) (by decide +kernel)
set_option maxRecDepth 20000 in
theorem gX5_code_X2_init_n43 : GoodIn wsX5_code (wsX2_init) := ggX5_code_X2_init
set_option maxRecDepth 20000 in
theorem ggX5_code_X5_steer : GoodIn wsX5_code wsX5_steer := goodIn_r _ [313, 314, 10, 1, 44, 45, 46, 47, 48, 49, 50, 266, 267, 268, 9, 269, 270, 271, 272, 273, 274, 262, 263, 264, 265, 315, 316, 317, 318, 319, 320, 321, 322, 323, 324, 325, 326, 327, 328, 329, 330, 331, 332, 333, 334, 335, 336, 337, 338, 339, 340, 341, 342] (by decide +kernel) (by decide +kernel)
set_option maxRecDepth 20000 in
theorem gX5_code_X5_steer : GoodIn wsX5_code (wsV RX5 158 RX5 yX5_steer wsX5_steer) := goodIn_app (goodIn_of _ (by decide +kernel)) ggX5_code_X5_steer
theorem dX5_code_0 : decode cX5_code 0 = .ok (.aload_n 0, 1) := by decide +kernel
theorem dX5_code_1 : decode cX5_code 1 = .ok (.invokevirtual 133, 3) := by decide +kernel
theorem dX5_code_4 : decode cX5_code 4 = .ok (.aload_n 0, 1) := by decide +kernel
theorem dX5_code_5 : decode cX5_code 5 = .ok (.aload_n 0, 1) := by decide +kernel
theorem dX5_code_6 : decode cX5_code 6 = .ok (.getfield 55, 3) := by decide +kernel
theorem dX5_code_9 : decode cX5_code 9 = .ok (.invokevirtual 136, 3) := by decide +kernel
theorem dX5_code_12 : decode cX5_code 12 = .ok (.aload_n 0, 1) := by decide +kernel
theorem dX5_code_13 : decode cX5_code 13 = .ok (.getfield 29, 3) := by decide +kernel
theorem dX5_code_16 : decode cX5_code 16 = .ok (.aload_n 0, 1) := by decide +kernel
theorem dX5_code_17 : decode cX5_code 17 = .ok (.getfield 44, 3) := by decide +kernel
theorem dX5_code_20 : decode cX5_code 20 = .ok (.invokevirtual 140, 3) := by decide +kernel
theorem dX5_code_23 : decode cX5_code 23 = .ok (.aload_n 0, 1) := by decide +kernel
theorem dX5_code_24 : decode cX5_code 24 = .ok (.getfield 44, 3) := by decide +kernel
theorem dX5_code_27 : decode cX5_code 27 = .ok (.astore_n 1, 1) := by decide +kernel
theorem dX5_code_28 : decode cX5_code 28 = .ok (.aload_n 1, 1) := by decide +kernel
theorem dX5_code_29 : decode cX5_code 29 = .ok (.aload_n 0, 1) := by decide +kernel
theorem dX5_code_30 : decode cX5_code 30 = .ok (.getfield 29, 3) := by decide +kernel
theorem dX5_code_33 : decode cX5_code 33 = .ok (.aload_n 1, 1) := by decide +kernel
theorem dX5_code_34 : decode cX5_code 34 = .ok (.invokevirtual 144, 3) := by decide +kernel
theorem dX5_code_37 : decode cX5_code 37 = .ok (.invokevirtual 148, 3) := by decide +kernel
theorem dX5_code_40 : decode cX5_code 40 = .ok (.putfield 152, 3) := by decide +kernel
theorem dX5_code_43 : decode cX5_code 43 = .ok (.aload_n 0, 1) := by decide +kernel
theorem dX5_code_44 : decode cX5_code 44 = .ok (.getfield 15, 3) := by decide +kernel
theorem dX5_code_47 : decode cX5_code 47 = .ok (.aload_n 0, 1) := by decide +kernel
theorem dX5_code_48 : decode cX5_code 48 = .ok (.getfield 48, 3) := by decide +kernel
theorem dX5_code_51 : decode cX5_code 51 = .ok (.aload_n 1, 1) := by decide +kernel
theorem dX5_code_52 : decode cX5_code 52 = .ok (.aastore, 1) := by decide +kernel
theorem dX5_code_53 : decode cX5_code 53 = .ok (.aload_n 0, 1) := by decide +kernel
theorem dX5_code_54 : decode cX5_code 54 = .ok (.new 13, 3) := by decide +kernel
theorem dX5_code_57 : decode cX5_code 57 = .ok (.dup, 1) := by decide +kernel
theorem dX5_code_58 : decode cX5_code 58 = .ok (.invokespecial 43, 3) := by decide +kernel
theorem dX5_code_61 : decode cX5_code 61 = .ok (.putfield 44, 3) := by decide +kernel
theorem dX5_code_64 : decode cX5_code 64 = .ok (.aload_n 0, 1) := by decide +kernel
theorem dX5_code_65 : decode cX5_code 65 = .ok (.dup, 1) := by decide +kernel
theorem dX5_code_66 : decode cX5_code 66 = .ok (.getfield 48, 3) := by decide +kernel
theorem dX5_code_69 : decode cX5_code 69 = .ok (.iconst 1, 1) := by decide +kernel
theorem dX5_code_70 : decode cX5_code 70 = .ok (.iadd, 1) := by decide +kernel
theorem dX5_code_71 : decode cX5_code 71 = .ok (.putfield 48, 3) := by decide +kernel
theorem dX5_code_74 : decode cX5_code 74 = .ok (.aload_n 0, 1) := by decide +kernel
theorem dX5_code_75 : decode cX5_code 75 = .ok (.aload_n 1, 1) := by decide +kernel
theorem dX5_code_76 : decode cX5_code 76 = .ok (.getfield 155, 3) := by decide +kernel
theorem dX5_code_79 : decode cX5_code 79 = .ok (.ifCond .eq 7, 3) := by decide +kernel
theorem dX5_code_82 : decode cX5_code 82 = .ok (.iconst 0, 1) := by decide +kernel
theorem dX5_code_83 : decode cX5_code 83 = .ok (.goto 9, 3) := by decide +kernel
theorem dX5_code_86 : decode cX5_code 86 = .ok (.aload_n 0, 1) := by decide +kernel
theorem dX5_code_87 : decode cX5_code 87 = .ok (.getfield 52, 3) := by decide +kernel
theorem dX5_code_90 : decode cX5_code 90 = .ok (.iconst 1, 1) := by decide +kernel
theorem dX5_code_91 : decode cX5_code 91 = .ok (.iadd, 1) := by decide +kernel
theorem dX5_code_92 : decode cX5_code 92 = .ok (.putfield 52, 3) := by decide +kernel
theorem dX5_code_95 : decode cX5_code 95 = .ok (.aload_n 0, 1) := by decide +kernel
theorem dX5_code_96 : decode cX5_code 96 = .ok (.iconst 0, 1) := by decide +kernel
theorem dX5_code_97 : decode cX5_code 97 = .ok (.putfield 68, 3) := by decide +kernel
theorem dX5_code_100 : decode cX5_code 100 = .ok (.aload_n 0, 1) := by decide +kernel
theorem dX5_code_101 : decode cX5_code 101 = .ok (.aload_n 1, 1) := by decide +kernel
theorem dX5_code_102 : decode cX5_code 102 = .ok (.invokevirtual 158, 3) := by decide +kernel
theorem dX5_code_105 : decode cX5_code 105 = .ok (.aload_n 1, 1) := by decide +kernel
theorem dX5_code_106 : decode cX5_code 106 = .ok (.invokevirtual 144, 3) := by decide +kernel
theorem dX5_code_109 : decode cX5_code 109 = .ok (.ireturn, 1) := by decide +kernel
theorem dX5_pictures_0 : decode cX5_pictures 0 = .ok (.aload_n 0, 1) := by decide +kernel
theorem dX5_pictures_1 : decode cX5_pictures 1 = .ok (.getfield 48, 3) := by decide +kernel
theorem dX5_pictures_4 : decode cX5_pictures 4 = .ok (.ireturn, 1) := by decide +kernel
theorem dX5_step_0 : decode cX5_step 0 = .ok (.aload_n 0, 1) := by decide +kernel
theorem dX5_step_1 : decode cX5_step 1 = .ok (.getfield 55, 3) := by decide +kernel
theorem dX5_step_4 : decode cX5_step 4 = .ok (.ireturn, 1) := by decide +kernel
set_option maxRecDepth 20000 in
theorem ggX5_isKey_X5_pictureAt : GoodIn wsX5_isKey wsX5_pictureAt := goodIn_ca (goodIn_r _ [6, 7, 8, 9, 10, 11, 5, 12, 13, 14, 29, 30, 31, 32, 33, 34, 35, 36, 37, 38, 39, 40, 41, 42] (by decide +kernel) (by decide +kernel)) (goodIn_sub (fun _ h => List.mem_cons_of_mem _ (List.mem_append_right _ h)) (by decide +kernel))
set_option maxRecDepth 20000 in
theorem gX5_isKey_X5_pictureAt : GoodIn wsX5_isKey (wsV RX5 161 RX5 yX5_pictureAt wsX5_pictureAt) := goodIn_app (goodIn_of _ (by decide +kernel)) ggX5_isKey_X5_pictureAt
theorem dX5_isKey_0 : decode cX5_isKey 0 = .ok (.aload_n 0, 1) := by decide +kernel
theorem dX5_isKey_1 : decode cX5_isKey 1 = .ok (.iload_n 1, 1) := by decide +kernel
theorem dX5_isKey_2 : decode cX5_isKey 2 = .ok (.invokevirtual 161, 3) := by decide +kernel
theorem dX5_isKey_5 : decode cX5_isKey 5 = .ok (.getfield 155, 3) := by decide +kernel
theorem dX5_isKey_8 : decode cX5_isKey 8 = .ok (.ireturn, 1) := by decide +kernel
set_option maxRecDepth 20000 in
theorem ggX5_kindOf_X5_pictureAt : GoodIn wsX5_kindOf wsX5_pictureAt := goodIn_ca (goodIn_r _ [6, 7, 8, 9, 10, 11, 5, 12, 13, 14, 32, 33, 34, 35, 36, 37, 38, 39, 40, 41, 42, 43, 44, 45] (by decide +kernel) (by decide +kernel)) (goodIn_sub (fun _ h => List.mem_cons_of_mem _ (List.mem_append_right _ h)) (by decide +kernel))
set_option maxRecDepth 20000 in
theorem gX5_kindOf_X5_pictureAt : GoodIn wsX5_kindOf (wsV RX5 161 RX5 yX5_pictureAt wsX5_pictureAt) := goodIn_app (goodIn_of _ (by decide +kernel)) ggX5_kindOf_X5_pictureAt
set_option maxRecDepth 20000 in
theorem ggX5_kindOf_X5_placeIn : GoodIn wsX5_kindOf wsX5_placeIn := goodIn_ca (goodIn_r _ [17, 7, 8] (by decide +kernel) (by decide +kernel)) (goodIn_sub (fun _ h => List.mem_cons_of_mem _ (List.mem_append_right _ h)) (by decide +kernel))
set_option maxRecDepth 20000 in
theorem gX5_kindOf_X5_placeIn : GoodIn wsX5_kindOf (va_wsS RX5 171 yX5_placeIn wsX5_placeIn) := goodIn_app (goodIn_of _ (by decide +kernel)) ggX5_kindOf_X5_placeIn
theorem dX5_kindOf_0 : decode cX5_kindOf 0 = .ok (.aload_n 0, 1) := by decide +kernel
theorem dX5_kindOf_1 : decode cX5_kindOf 1 = .ok (.iload_n 1, 1) := by decide +kernel
theorem dX5_kindOf_2 : decode cX5_kindOf 2 = .ok (.invokevirtual 161, 3) := by decide +kernel
theorem dX5_kindOf_5 : decode cX5_kindOf 5 = .ok (.getfield 168, 3) := by decide +kernel
theorem dX5_kindOf_8 : decode cX5_kindOf 8 = .ok (.iload_n 2, 1) := by decide +kernel
theorem dX5_kindOf_9 : decode cX5_kindOf 9 = .ok (.bipush 12, 2) := by decide +kernel
theorem dX5_kindOf_11 : decode cX5_kindOf 11 = .ok (.invokestatic 171, 3) := by decide +kernel
theorem dX5_kindOf_14 : decode cX5_kindOf 14 = .ok (.iaload, 1) := by decide +kernel
theorem dX5_kindOf_15 : decode cX5_kindOf 15 = .ok (.ireturn, 1) := by decide +kernel
set_option maxRecDepth 20000 in
theorem ggX5_vectorX_X5_pictureAt : GoodIn wsX5_vectorX wsX5_pictureAt := goodIn_ca (goodIn_r _ [6, 7, 8, 9, 10, 11, 5, 12, 13, 14, 32, 33, 34, 35, 36, 37, 38, 39, 40, 41, 42, 43, 44, 45] (by decide +kernel) (by decide +kernel)) (goodIn_sub (fun _ h => List.mem_cons_of_mem _ (List.mem_append_right _ h)) (by decide +kernel))
set_option maxRecDepth 20000 in
theorem gX5_vectorX_X5_pictureAt : GoodIn wsX5_vectorX (wsV RX5 161 RX5 yX5_pictureAt wsX5_pictureAt) := goodIn_app (goodIn_of _ (by decide +kernel)) ggX5_vectorX_X5_pictureAt
set_option maxRecDepth 20000 in
theorem ggX5_vectorX_X5_placeIn : GoodIn wsX5_vectorX wsX5_placeIn := goodIn_ca (goodIn_r _ [17, 7, 8] (by decide +kernel) (by decide +kernel)) (goodIn_sub (fun _ h => List.mem_cons_of_mem _ (List.mem_append_right _ h)) (by decide +kernel))
set_option maxRecDepth 20000 in
theorem gX5_vectorX_X5_placeIn : GoodIn wsX5_vectorX (va_wsS RX5 171 yX5_placeIn wsX5_placeIn) := goodIn_app (goodIn_of _ (by decide +kernel)) ggX5_vectorX_X5_placeIn
theorem dX5_vectorX_0 : decode cX5_vectorX 0 = .ok (.aload_n 0, 1) := by decide +kernel
theorem dX5_vectorX_1 : decode cX5_vectorX 1 = .ok (.iload_n 1, 1) := by decide +kernel
theorem dX5_vectorX_2 : decode cX5_vectorX 2 = .ok (.invokevirtual 161, 3) := by decide +kernel
theorem dX5_vectorX_5 : decode cX5_vectorX 5 = .ok (.getfield 174, 3) := by decide +kernel
theorem dX5_vectorX_8 : decode cX5_vectorX 8 = .ok (.iload_n 2, 1) := by decide +kernel
theorem dX5_vectorX_9 : decode cX5_vectorX 9 = .ok (.bipush 12, 2) := by decide +kernel
theorem dX5_vectorX_11 : decode cX5_vectorX 11 = .ok (.invokestatic 171, 3) := by decide +kernel
theorem dX5_vectorX_14 : decode cX5_vectorX 14 = .ok (.iaload, 1) := by decide +kernel
theorem dX5_vectorX_15 : decode cX5_vectorX 15 = .ok (.ireturn, 1) := by decide +kernel
set_option maxRecDepth 20000 in
theorem ggX5_vectorY_X5_pictureAt : GoodIn wsX5_vectorY wsX5_pictureAt := goodIn_ca (goodIn_r _ [6, 7, 8, 9, 10, 11, 5, 12, 13, 14, 32, 33, 34, 35, 36, 37, 38, 39, 40, 41, 42, 43, 44, 45] (by decide +kernel) (by decide +kernel)) (goodIn_sub (fun _ h => List.mem_cons_of_mem _ (List.mem_append_right _ h)) (by decide +kernel))
set_option maxRecDepth 20000 in
theorem gX5_vectorY_X5_pictureAt : GoodIn wsX5_vectorY (wsV RX5 161 RX5 yX5_pictureAt wsX5_pictureAt) := goodIn_app (goodIn_of _ (by decide +kernel)) ggX5_vectorY_X5_pictureAt
set_option maxRecDepth 20000 in
theorem ggX5_vectorY_X5_placeIn : GoodIn wsX5_vectorY wsX5_placeIn := goodIn_ca (goodIn_r _ [17, 7, 8] (by decide +kernel) (by decide +kernel)) (goodIn_sub (fun _ h => List.mem_cons_of_mem _ (List.mem_append_right _ h)) (by decide +kernel))
set_option maxRecDepth 20000 in
theorem gX5_vectorY_X5_placeIn : GoodIn wsX5_vectorY (va_wsS RX5 171 yX5_placeIn wsX5_placeIn) := goodIn_app (goodIn_of _ (by decide +kernel)) ggX5_vectorY_X5_placeIn
theorem dX5_vectorY_0 : decode cX5_vectorY 0 = .ok (.aload_n 0, 1) := by decide +kernel
theorem dX5_vectorY_1 : decode cX5_vectorY 1 = .ok (.iload_n 1, 1) := by decide +kernel
theorem dX5_vectorY_2 : decode cX5_vectorY 2 = .ok (.invokevirtual 161, 3) := by decide +kernel
theorem dX5_vectorY_5 : decode cX5_vectorY 5 = .ok (.getfield 177, 3) := by decide +kernel
theorem dX5_vectorY_8 : decode cX5_vectorY 8 = .ok (.iload_n 2, 1) := by decide +kernel
theorem dX5_vectorY_9 : decode cX5_vectorY 9 = .ok (.bipush 12, 2) := by decide +kernel
theorem dX5_vectorY_11 : decode cX5_vectorY 11 = .ok (.invokestatic 171, 3) := by decide +kernel
theorem dX5_vectorY_14 : decode cX5_vectorY 14 = .ok (.iaload, 1) := by decide +kernel
theorem dX5_vectorY_15 : decode cX5_vectorY 15 = .ok (.ireturn, 1) := by decide +kernel
set_option maxRecDepth 20000 in
theorem ggX5_levels_X5_pictureAt : GoodIn wsX5_levels wsX5_pictureAt := goodIn_ca (goodIn_r _ [5, 6, 7, 8, 9, 10, 4, 11, 12, 13, 23, 24, 25, 26, 27, 28, 29, 30, 31, 32, 33, 34, 35, 36] (by decide +kernel) (by decide +kernel)) (goodIn_sub (fun _ h => List.mem_cons_of_mem _ (List.mem_append_right _ h)) (by decide +kernel))
end
section
set_option maxRecDepth 20000 in
theorem gX5_levels_X5_pictureAt : GoodIn wsX5_levels (wsV RX5 161 RX5 yX5_pictureAt wsX5_pictureAt) := goodIn_app (goodIn_of _ (by decide +kernel)) ggX5_levels_X5_pictureAt
set_option maxRecDepth 20000 in
theorem ggX5_levels_X5_placeIn : GoodIn wsX5_levels wsX5_placeIn := goodIn_ca (goodIn_r _ [16, 6, 7] (by decide +kernel) (by decide +kernel)) (goodIn_sub (fun _ h => List.mem_cons_of_mem _ (List.mem_append_right _ h)) (by decide +kernel))
set_option maxRecDepth 20000 in
theorem gX5_levels_X5_placeIn : GoodIn wsX5_levels (va_wsS RX5 171 yX5_placeIn wsX5_placeIn) := goodIn_app (goodIn_of _ (by decide +kernel)) ggX5_levels_X5_placeIn
set_option maxRecDepth 20000 in
theorem ggX5_levels_X2_levelsNotZero : GoodIn wsX5_levels wsX2_levelsNotZero := goodIn_r _ [21, 22, 37, 38, 39, 40, 41, 42, 43, 44, 45, 46, 47, 48, 49, 50] (by decide +kernel) (by decide +kernel)
set_option maxRecDepth 20000 in
theorem gX5_levels_X2_levelsNotZero : GoodIn wsX5_levels (wsV RX5 180 RX2 yX2_levelsNotZero wsX2_levelsNotZero) := goodIn_app (goodIn_of _ (by decide +kernel)) ggX5_levels_X2_levelsNotZero
theorem dX5_levels_0 : decode cX5_levels 0 = .ok (.aload_n 0, 1) := by decide +kernel
theorem dX5_levels_1 : decode cX5_levels 1 = .ok (.iload_n 1, 1) := by decide +kernel
theorem dX5_levels_2 : decode cX5_levels 2 = .ok (.invokevirtual 161, 3) := by decide +kernel
theorem dX5_levels_5 : decode cX5_levels 5 = .ok (.iload_n 2, 1) := by decide +kernel
theorem dX5_levels_6 : decode cX5_levels 6 = .ok (.bipush 12, 2) := by decide +kernel
theorem dX5_levels_8 : decode cX5_levels 8 = .ok (.invokestatic 171, 3) := by decide +kernel
theorem dX5_levels_11 : decode cX5_levels 11 = .ok (.invokevirtual 180, 3) := by decide +kernel
theorem dX5_levels_14 : decode cX5_levels 14 = .ok (.ireturn, 1) := by decide +kernel
set_option maxRecDepth 20000 in
theorem ggX5_resultAt_X5_pictureAt : GoodIn wsX5_resultAt wsX5_pictureAt := goodIn_ca (goodIn_r _ [6, 7, 8, 9, 10, 11, 5, 12, 13, 14, 35, 36, 37, 38, 39, 40, 41, 42, 43, 44, 45, 46, 47, 48] (by decide +kernel) (by decide +kernel)) (goodIn_sub (fun _ h => List.mem_cons_of_mem _ (List.mem_append_right _ h)) (by decide +kernel))
set_option maxRecDepth 20000 in
theorem gX5_resultAt_X5_pictureAt : GoodIn wsX5_resultAt (wsV RX5 161 RX5 yX5_pictureAt wsX5_pictureAt) := goodIn_app (goodIn_of _ (by decide +kernel)) ggX5_resultAt_X5_pictureAt
set_option maxRecDepth 20000 in
theorem ggX5_resultAt_X5_pointAt : GoodIn wsX5_resultAt wsX5_pointAt := goodIn_ca (goodIn_r _ [17, 18, 19, 5, 20, 7, 8] (by decide +kernel) (by decide +kernel)) (goodIn_sub (fun _ h => List.mem_cons_of_mem _ (List.mem_append_right _ h)) (by decide +kernel))
set_option maxRecDepth 20000 in
theorem gX5_resultAt_X5_pointAt : GoodIn wsX5_resultAt (va_wsS RX5 120 yX5_pointAt wsX5_pointAt) := goodIn_app (goodIn_of _ (by decide +kernel)) ggX5_resultAt_X5_pointAt
theorem dX5_resultAt_0 : decode cX5_resultAt 0 = .ok (.aload_n 0, 1) := by decide +kernel
theorem dX5_resultAt_1 : decode cX5_resultAt 1 = .ok (.iload_n 1, 1) := by decide +kernel
theorem dX5_resultAt_2 : decode cX5_resultAt 2 = .ok (.invokevirtual 161, 3) := by decide +kernel
theorem dX5_resultAt_5 : decode cX5_resultAt 5 = .ok (.getfield 186, 3) := by decide +kernel
theorem dX5_resultAt_8 : decode cX5_resultAt 8 = .ok (.iload_n 2, 1) := by decide +kernel
theorem dX5_resultAt_9 : decode cX5_resultAt 9 = .ok (.iload_n 3, 1) := by decide +kernel
theorem dX5_resultAt_10 : decode cX5_resultAt 10 = .ok (.invokestatic 120, 3) := by decide +kernel
theorem dX5_resultAt_13 : decode cX5_resultAt 13 = .ok (.iaload, 1) := by decide +kernel
theorem dX5_resultAt_14 : decode cX5_resultAt 14 = .ok (.ireturn, 1) := by decide +kernel
set_option maxRecDepth 20000 in
theorem ggX5_errorOf_X5_pictureAt : GoodIn wsX5_errorOf wsX5_pictureAt := goodIn_ca (goodIn_r _ [6, 7, 8, 9, 10, 11, 5, 12, 13, 14, 29, 30, 31, 32, 33, 34, 35, 36, 37, 38, 39, 40, 41, 42] (by decide +kernel) (by decide +kernel)) (goodIn_sub (fun _ h => List.mem_cons_of_mem _ (List.mem_append_right _ h)) (by decide +kernel))
set_option maxRecDepth 20000 in
theorem gX5_errorOf_X5_pictureAt : GoodIn wsX5_errorOf (wsV RX5 161 RX5 yX5_pictureAt wsX5_pictureAt) := goodIn_app (goodIn_of _ (by decide +kernel)) ggX5_errorOf_X5_pictureAt
theorem dX5_errorOf_0 : decode cX5_errorOf 0 = .ok (.aload_n 0, 1) := by decide +kernel
theorem dX5_errorOf_1 : decode cX5_errorOf 1 = .ok (.iload_n 1, 1) := by decide +kernel
theorem dX5_errorOf_2 : decode cX5_errorOf 2 = .ok (.invokevirtual 161, 3) := by decide +kernel
theorem dX5_errorOf_5 : decode cX5_errorOf 5 = .ok (.getfield 189, 3) := by decide +kernel
theorem dX5_errorOf_8 : decode cX5_errorOf 8 = .ok (.ireturn, 1) := by decide +kernel
set_option maxRecDepth 20000 in
theorem ggX5_bytes_X5_pictureAt : GoodIn wsX5_bytes wsX5_pictureAt := goodIn_ca (goodIn_r _ [5, 6, 7, 8, 9, 10, 4, 11, 12, 13, 23, 24, 25, 26, 27, 28, 29, 30, 31, 32, 33, 34, 35, 36] (by decide +kernel) (by decide +kernel)) (goodIn_sub (fun _ h => List.mem_cons_of_mem _ (List.mem_append_right _ h)) (by decide +kernel))
set_option maxRecDepth 20000 in
theorem gX5_bytes_X5_pictureAt : GoodIn wsX5_bytes (wsV RX5 161 RX5 yX5_pictureAt wsX5_pictureAt) := goodIn_app (goodIn_of _ (by decide +kernel)) ggX5_bytes_X5_pictureAt
set_option maxRecDepth 20000 in
theorem ggX5_bytes_X5_placeIn : GoodIn wsX5_bytes wsX5_placeIn := goodIn_ca (goodIn_r _ [16, 6, 7] (by decide +kernel) (by decide +kernel)) (goodIn_sub (fun _ h => List.mem_cons_of_mem _ (List.mem_append_right _ h)) (by decide +kernel))
set_option maxRecDepth 20000 in
theorem gX5_bytes_X5_placeIn : GoodIn wsX5_bytes (va_wsS RX5 171 yX5_placeIn wsX5_placeIn) := goodIn_app (goodIn_of _ (by decide +kernel)) ggX5_bytes_X5_placeIn
set_option maxRecDepth 20000 in
theorem ggX5_bytes_X2_bytesIn : GoodIn wsX5_bytes wsX2_bytesIn := goodIn_r _ [21, 22, 37, 38, 39, 40, 41, 42, 43, 44, 45, 46, 47, 48, 49, 50] (by decide +kernel) (by decide +kernel)
set_option maxRecDepth 20000 in
theorem gX5_bytes_X2_bytesIn : GoodIn wsX5_bytes (wsV RX5 192 RX2 yX2_bytesIn wsX2_bytesIn) := goodIn_app (goodIn_of _ (by decide +kernel)) ggX5_bytes_X2_bytesIn
theorem dX5_bytes_0 : decode cX5_bytes 0 = .ok (.aload_n 0, 1) := by decide +kernel
theorem dX5_bytes_1 : decode cX5_bytes 1 = .ok (.iload_n 1, 1) := by decide +kernel
theorem dX5_bytes_2 : decode cX5_bytes 2 = .ok (.invokevirtual 161, 3) := by decide +kernel
theorem dX5_bytes_5 : decode cX5_bytes 5 = .ok (.iload_n 2, 1) := by decide +kernel
theorem dX5_bytes_6 : decode cX5_bytes 6 = .ok (.iconst 3, 1) := by decide +kernel
theorem dX5_bytes_7 : decode cX5_bytes 7 = .ok (.invokestatic 171, 3) := by decide +kernel
theorem dX5_bytes_10 : decode cX5_bytes 10 = .ok (.invokevirtual 192, 3) := by decide +kernel
theorem dX5_bytes_13 : decode cX5_bytes 13 = .ok (.ireturn, 1) := by decide +kernel
set_option maxRecDepth 20000 in
theorem ggX5_bits_X5_pictureAt : GoodIn wsX5_bits wsX5_pictureAt := goodIn_ca (goodIn_r _ [6, 7, 8, 9, 10, 11, 5, 12, 13, 14, 32, 33, 34, 35, 36, 37, 38, 39, 40, 41, 42, 43, 44, 45] (by decide +kernel) (by decide +kernel)) (goodIn_sub (fun _ h => List.mem_cons_of_mem _ (List.mem_append_right _ h)) (by decide +kernel))
set_option maxRecDepth 20000 in
theorem gX5_bits_X5_pictureAt : GoodIn wsX5_bits (wsV RX5 161 RX5 yX5_pictureAt wsX5_pictureAt) := goodIn_app (goodIn_of _ (by decide +kernel)) ggX5_bits_X5_pictureAt
set_option maxRecDepth 20000 in
theorem ggX5_bits_X5_placeIn : GoodIn wsX5_bits wsX5_placeIn := goodIn_ca (goodIn_r _ [17, 7, 8] (by decide +kernel) (by decide +kernel)) (goodIn_sub (fun _ h => List.mem_cons_of_mem _ (List.mem_append_right _ h)) (by decide +kernel))
set_option maxRecDepth 20000 in
theorem gX5_bits_X5_placeIn : GoodIn wsX5_bits (va_wsS RX5 171 yX5_placeIn wsX5_placeIn) := goodIn_app (goodIn_of _ (by decide +kernel)) ggX5_bits_X5_placeIn
theorem dX5_bits_0 : decode cX5_bits 0 = .ok (.aload_n 0, 1) := by decide +kernel
theorem dX5_bits_1 : decode cX5_bits 1 = .ok (.iload_n 1, 1) := by decide +kernel
theorem dX5_bits_2 : decode cX5_bits 2 = .ok (.invokevirtual 161, 3) := by decide +kernel
theorem dX5_bits_5 : decode cX5_bits 5 = .ok (.getfield 195, 3) := by decide +kernel
theorem dX5_bits_8 : decode cX5_bits 8 = .ok (.iload_n 2, 1) := by decide +kernel
theorem dX5_bits_9 : decode cX5_bits 9 = .ok (.iconst 3, 1) := by decide +kernel
theorem dX5_bits_10 : decode cX5_bits 10 = .ok (.invokestatic 171, 3) := by decide +kernel
theorem dX5_bits_13 : decode cX5_bits 13 = .ok (.iaload, 1) := by decide +kernel
theorem dX5_bits_14 : decode cX5_bits 14 = .ok (.ireturn, 1) := by decide +kernel
set_option maxRecDepth 20000 in
theorem ggX5_byteAt_X5_pictureAt : GoodIn wsX5_byteAt wsX5_pictureAt := goodIn_ca (goodIn_r _ [6, 7, 8, 9, 10, 11, 5, 12, 13, 14, 43, 44, 45, 46, 47, 48, 49, 50, 51, 52, 53, 54, 55, 56] (by decide +kernel) (by decide +kernel)) (goodIn_sub (fun _ h => List.mem_cons_of_mem _ (List.mem_append_right _ h)) (by decide +kernel))
set_option maxRecDepth 20000 in
theorem gX5_byteAt_X5_pictureAt : GoodIn wsX5_byteAt (wsV RX5 161 RX5 yX5_pictureAt wsX5_pictureAt) := goodIn_app (goodIn_of _ (by decide +kernel)) ggX5_byteAt_X5_pictureAt
set_option maxRecDepth 20000 in
theorem ggX5_byteAt_X5_placeIn : GoodIn wsX5_byteAt wsX5_placeIn := goodIn_ca (goodIn_r _ [17, 7, 8] (by decide +kernel) (by decide +kernel)) (goodIn_sub (fun _ h => List.mem_cons_of_mem _ (List.mem_append_right _ h)) (by decide +kernel))
set_option maxRecDepth 20000 in
theorem gX5_byteAt_X5_placeIn : GoodIn wsX5_byteAt (va_wsS RX5 171 yX5_placeIn wsX5_placeIn) := goodIn_app (goodIn_of _ (by decide +kernel)) ggX5_byteAt_X5_placeIn
set_option maxRecDepth 20000 in
theorem ggX5_byteAt_X2_firstByteOf : GoodIn wsX5_byteAt wsX2_firstByteOf := goodIn_r _ [22, 23, 24, 25, 21, 26, 27, 29, 30, 31, 32, 33, 34, 35, 36, 37, 38, 39, 40, 41, 42] (by decide +kernel) (by decide +kernel)
set_option maxRecDepth 20000 in
theorem gX5_byteAt_X2_firstByteOf : GoodIn wsX5_byteAt (wsV RX5 198 RX2 yX2_firstByteOf wsX2_firstByteOf) := goodIn_app (goodIn_of _ (by decide +kernel)) ggX5_byteAt_X2_firstByteOf
set_option maxRecDepth 20000 in
theorem ggX5_byteAt_X2_bytesIn : GoodIn wsX5_byteAt wsX2_bytesIn := goodIn_r _ [26, 27, 29, 30, 31, 32, 33, 34, 35, 36, 37, 38, 39, 40, 41, 42] (by decide +kernel) (by decide +kernel)
set_option maxRecDepth 20000 in
theorem gX5_byteAt_X2_bytesIn : GoodIn wsX5_byteAt (wsV RX5 192 RX2 yX2_bytesIn wsX2_bytesIn) := goodIn_app (goodIn_of _ (by decide +kernel)) ggX5_byteAt_X2_bytesIn
theorem dX5_byteAt_0 : decode cX5_byteAt 0 = .ok (.aload_n 0, 1) := by decide +kernel
theorem dX5_byteAt_1 : decode cX5_byteAt 1 = .ok (.iload_n 1, 1) := by decide +kernel
theorem dX5_byteAt_2 : decode cX5_byteAt 2 = .ok (.invokevirtual 161, 3) := by decide +kernel
theorem dX5_byteAt_5 : decode cX5_byteAt 5 = .ok (.astore 4, 2) := by decide +kernel
theorem dX5_byteAt_7 : decode cX5_byteAt 7 = .ok (.iload_n 2, 1) := by decide +kernel
theorem dX5_byteAt_8 : decode cX5_byteAt 8 = .ok (.iconst 3, 1) := by decide +kernel
theorem dX5_byteAt_9 : decode cX5_byteAt 9 = .ok (.invokestatic 171, 3) := by decide +kernel
theorem dX5_byteAt_12 : decode cX5_byteAt 12 = .ok (.istore 5, 2) := by decide +kernel
theorem dX5_byteAt_14 : decode cX5_byteAt 14 = .ok (.aload 4, 2) := by decide +kernel
theorem dX5_byteAt_16 : decode cX5_byteAt 16 = .ok (.iload 5, 2) := by decide +kernel
theorem dX5_byteAt_18 : decode cX5_byteAt 18 = .ok (.invokevirtual 198, 3) := by decide +kernel
theorem dX5_byteAt_21 : decode cX5_byteAt 21 = .ok (.iload_n 3, 1) := by decide +kernel
theorem dX5_byteAt_22 : decode cX5_byteAt 22 = .ok (.aload 4, 2) := by decide +kernel
theorem dX5_byteAt_24 : decode cX5_byteAt 24 = .ok (.iload 5, 2) := by decide +kernel
theorem dX5_byteAt_26 : decode cX5_byteAt 26 = .ok (.invokevirtual 192, 3) := by decide +kernel
theorem dX5_byteAt_29 : decode cX5_byteAt 29 = .ok (.invokestatic 171, 3) := by decide +kernel
theorem dX5_byteAt_32 : decode cX5_byteAt 32 = .ok (.iadd, 1) := by decide +kernel
theorem dX5_byteAt_33 : decode cX5_byteAt 33 = .ok (.istore 6, 2) := by decide +kernel
theorem dX5_byteAt_35 : decode cX5_byteAt 35 = .ok (.aload 4, 2) := by decide +kernel
theorem dX5_byteAt_37 : decode cX5_byteAt 37 = .ok (.getfield 152, 3) := by decide +kernel
theorem dX5_byteAt_40 : decode cX5_byteAt 40 = .ok (.iload 6, 2) := by decide +kernel
theorem dX5_byteAt_42 : decode cX5_byteAt 42 = .ok (.aload 4, 2) := by decide +kernel
theorem dX5_byteAt_44 : decode cX5_byteAt 44 = .ok (.getfield 152, 3) := by decide +kernel
theorem dX5_byteAt_47 : decode cX5_byteAt 47 = .ok (.arraylength, 1) := by decide +kernel
theorem dX5_byteAt_48 : decode cX5_byteAt 48 = .ok (.invokestatic 171, 3) := by decide +kernel
theorem dX5_byteAt_51 : decode cX5_byteAt 51 = .ok (.iaload, 1) := by decide +kernel
theorem dX5_byteAt_52 : decode cX5_byteAt 52 = .ok (.ireturn, 1) := by decide +kernel
set_option maxRecDepth 20000 in
theorem ggX5_hand_X5_pictureAt : GoodIn wsX5_hand wsX5_pictureAt := goodIn_ca (goodIn_r _ [5, 6, 7, 8, 9, 10, 4, 11, 12, 13, 25, 26, 27, 28, 29, 30, 31, 32, 33, 34, 35, 36, 37, 38] (by decide +kernel) (by decide +kernel)) (goodIn_sub (fun _ h => List.mem_cons_of_mem _ (List.mem_append_right _ h)) (by decide +kernel))
set_option maxRecDepth 20000 in
theorem gX5_hand_X5_pictureAt : GoodIn wsX5_hand (wsV RX5 161 RX5 yX5_pictureAt wsX5_pictureAt) := goodIn_app (goodIn_of _ (by decide +kernel)) ggX5_hand_X5_pictureAt
set_option maxRecDepth 20000 in
theorem ggX5_hand_X5_placeIn : GoodIn wsX5_hand wsX5_placeIn := goodIn_ca (goodIn_r _ [16, 6, 7] (by decide +kernel) (by decide +kernel)) (goodIn_sub (fun _ h => List.mem_cons_of_mem _ (List.mem_append_right _ h)) (by decide +kernel))
set_option maxRecDepth 20000 in
theorem gX5_hand_X5_placeIn : GoodIn wsX5_hand (va_wsS RX5 171 yX5_placeIn wsX5_placeIn) := goodIn_app (goodIn_of _ (by decide +kernel)) ggX5_hand_X5_placeIn
set_option maxRecDepth 20000 in
theorem ggX5_hand_X5_handOver : GoodIn wsX5_hand wsX5_handOver := goodIn_r _ [20, 21, 22, 23, 24, 39, 40, 41, 42, 43, 44, 45, 46, 47, 48, 49, 50, 51, 52, 25, 26, 27, 28, 29, 30, 31, 32, 33, 34, 35, 36, 37, 38, 53, 54, 55] (by decide +kernel) (by decide +kernel)
set_option maxRecDepth 20000 in
theorem gX5_hand_X5_handOver : GoodIn wsX5_hand (wsV RX5 204 RX5 yX5_handOver wsX5_handOver) := goodIn_app (goodIn_of _ (by decide +kernel)) ggX5_hand_X5_handOver
theorem dX5_hand_0 : decode cX5_hand 0 = .ok (.aload_n 0, 1) := by decide +kernel
theorem dX5_hand_1 : decode cX5_hand 1 = .ok (.iload_n 1, 1) := by decide +kernel
theorem dX5_hand_2 : decode cX5_hand 2 = .ok (.invokevirtual 161, 3) := by decide +kernel
theorem dX5_hand_5 : decode cX5_hand 5 = .ok (.astore_n 3, 1) := by decide +kernel
theorem dX5_hand_6 : decode cX5_hand 6 = .ok (.aload_n 0, 1) := by decide +kernel
theorem dX5_hand_7 : decode cX5_hand 7 = .ok (.aload_n 3, 1) := by decide +kernel
theorem dX5_hand_8 : decode cX5_hand 8 = .ok (.iload_n 2, 1) := by decide +kernel
theorem dX5_hand_9 : decode cX5_hand 9 = .ok (.iconst 3, 1) := by decide +kernel
theorem dX5_hand_10 : decode cX5_hand 10 = .ok (.invokestatic 171, 3) := by decide +kernel
theorem dX5_hand_13 : decode cX5_hand 13 = .ok (.invokevirtual 204, 3) := by decide +kernel
theorem dX5_hand_16 : decode cX5_hand 16 = .ok (.ireturn, 1) := by decide +kernel
set_option maxRecDepth 20000 in
theorem ggX5_show_X5_pictureOrNull : GoodIn wsX5_show wsX5_pictureOrNull := goodIn_r _ [9, 10, 11, 137, 138, 139, 140, 141, 142, 143, 144, 145, 146, 147, 148, 149, 150] (by decide +kernel) (by decide +kernel)
set_option maxRecDepth 20000 in
theorem gX5_show_X5_pictureOrNull : GoodIn wsX5_show (wsV RX5 211 RX5 yX5_pictureOrNull wsX5_pictureOrNull) := goodIn_app (goodIn_of _ (by decide +kernel)) ggX5_show_X5_pictureOrNull
set_option maxRecDepth 20000 in
theorem ggX5_show_X4_make : GoodIn wsX5_show wsX4_make := goodIn_r _ [16, 17, 18, 19, 20, 21, 22, 23, 24, 25, 26, 27, 28, 29, 30, 31, 32, 8, 33, 34, 35, 36, 37, 38, 39, 40, 41, 42, 43, 44, 45, 46, 47, 48, 49, 50, 51, 52, 53, 54, 55, 56, 57, 58, 59, 60, 61, 62, 63, 64, 65, 66, 67, 68, 69, 70, 71, 72, 73, 74, 75, 76, 77, 78, 79, 80, 81, 82, 83, 84, 85, 86, 87, 88, 89, 90, 91, 92, 93, 94, 95, 96, 97, 98, 99, 100, 101, 102, 103, 15, 104, 105, 106, 107, 108, 109, 110, 111, 112, 113, 114, 115, 116, 117, 118, 119, 120, 121, 122, 123, 124, 125, 151, 152, 153, 154, 155, 156, 157, 158, 159, 160, 161, 162, 163, 164, 165, 166, 167, 168, 169, 170, 171] (by decide +kernel) (by decide +kernel)
set_option maxRecDepth 20000 in
theorem gX5_show_X4_make : GoodIn wsX5_show (wsV RX5 219 RX4 yX4_make wsX4_make) := goodIn_app (goodIn_of _ (by decide +kernel)) ggX5_show_X4_make
set_option maxRecDepth 20000 in
theorem ggX5_show_X4_takeMade : GoodIn wsX5_show wsX4_takeMade := goodIn_r _ [129, 17, 130, 18, 131, 132, 133, 134, 135, 151, 152, 153, 168, 169, 170, 171] (by decide +kernel) (by decide +kernel)
set_option maxRecDepth 20000 in
theorem gX5_show_X4_takeMade : GoodIn wsX5_show (wsV RX5 222 RX4 yX4_takeMade wsX4_takeMade) := goodIn_app (goodIn_of _ (by decide +kernel)) ggX5_show_X4_takeMade
set_option maxRecDepth 20000 in
theorem ggX5_show_X2_bandsGot : GoodIn wsX5_show wsX2_bandsGot := goodIn_r _ [113, 114, 154, 155, 156, 157, 158, 159, 160, 161, 162, 163, 164, 165, 166, 167] (by decide +kernel) (by decide +kernel)
set_option maxRecDepth 20000 in
theorem gX5_show_X2_bandsGot : GoodIn wsX5_show (wsV RX5 225 RX2 yX2_bandsGot wsX2_bandsGot) := goodIn_app (goodIn_of _ (by decide +kernel)) ggX5_show_X2_bandsGot
theorem dX5_show_0 : decode cX5_show 0 = .ok (.aload_n 0, 1) := by decide +kernel
theorem dX5_show_1 : decode cX5_show 1 = .ok (.aload_n 0, 1) := by decide +kernel
theorem dX5_show_2 : decode cX5_show 2 = .ok (.getfield 36, 3) := by decide +kernel
theorem dX5_show_5 : decode cX5_show 5 = .ok (.getfield 208, 3) := by decide +kernel
theorem dX5_show_8 : decode cX5_show 8 = .ok (.invokevirtual 211, 3) := by decide +kernel
theorem dX5_show_11 : decode cX5_show 11 = .ok (.astore_n 1, 1) := by decide +kernel
theorem dX5_show_12 : decode cX5_show 12 = .ok (.aload_n 1, 1) := by decide +kernel
theorem dX5_show_13 : decode cX5_show 13 = .ok (.ifnonnull 13, 3) := by decide +kernel
theorem dX5_show_16 : decode cX5_show 16 = .ok (.new 214, 3) := by decide +kernel
theorem dX5_show_19 : decode cX5_show 19 = .ok (.dup, 1) := by decide +kernel
theorem dX5_show_20 : decode cX5_show 20 = .ok (.ldc 216, 2) := by decide +kernel
theorem dX5_show_22 : decode cX5_show 22 = .ok (.invokespecial 218, 3) := by decide +kernel
theorem dX5_show_25 : decode cX5_show 25 = .ok (.athrow, 1) := by decide +kernel
theorem dX5_show_26 : decode cX5_show 26 = .ok (.aload_n 0, 1) := by decide +kernel
theorem dX5_show_27 : decode cX5_show 27 = .ok (.getfield 36, 3) := by decide +kernel
theorem dX5_show_30 : decode cX5_show 30 = .ok (.aload_n 1, 1) := by decide +kernel
theorem dX5_show_31 : decode cX5_show 31 = .ok (.invokevirtual 219, 3) := by decide +kernel
theorem dX5_show_34 : decode cX5_show 34 = .ok (.aload_n 0, 1) := by decide +kernel
theorem dX5_show_35 : decode cX5_show 35 = .ok (.getfield 36, 3) := by decide +kernel
theorem dX5_show_38 : decode cX5_show 38 = .ok (.invokevirtual 222, 3) := by decide +kernel
theorem dX5_show_41 : decode cX5_show 41 = .ok (.iconst 3, 1) := by decide +kernel
theorem dX5_show_42 : decode cX5_show 42 = .ok (.aload_n 1, 1) := by decide +kernel
theorem dX5_show_43 : decode cX5_show 43 = .ok (.invokevirtual 225, 3) := by decide +kernel
theorem dX5_show_46 : decode cX5_show 46 = .ok (.isub, 1) := by decide +kernel
theorem dX5_show_47 : decode cX5_show 47 = .ok (.ireturn, 1) := by decide +kernel
theorem dX5_shown_0 : decode cX5_shown 0 = .ok (.aload_n 0, 1) := by decide +kernel
theorem dX5_shown_1 : decode cX5_shown 1 = .ok (.getfield 36, 3) := by decide +kernel
theorem dX5_shown_4 : decode cX5_shown 4 = .ok (.getfield 208, 3) := by decide +kernel
theorem dX5_shown_7 : decode cX5_shown 7 = .ok (.ireturn, 1) := by decide +kernel
set_option maxRecDepth 20000 in
theorem ggX5_shownAt_X5_pointAt : GoodIn wsX5_shownAt wsX5_pointAt := goodIn_ca (goodIn_r _ [6, 7, 8, 5, 9, 10, 11] (by decide +kernel) (by decide +kernel)) (goodIn_sub (fun _ h => List.mem_cons_of_mem _ (List.mem_append_right _ h)) (by decide +kernel))
set_option maxRecDepth 20000 in
theorem gX5_shownAt_X5_pointAt : GoodIn wsX5_shownAt (va_wsS RX5 120 yX5_pointAt wsX5_pointAt) := goodIn_app (goodIn_of _ (by decide +kernel)) ggX5_shownAt_X5_pointAt
theorem dX5_shownAt_0 : decode cX5_shownAt 0 = .ok (.aload_n 0, 1) := by decide +kernel
theorem dX5_shownAt_1 : decode cX5_shownAt 1 = .ok (.getfield 36, 3) := by decide +kernel
theorem dX5_shownAt_4 : decode cX5_shownAt 4 = .ok (.getfield 228, 3) := by decide +kernel
theorem dX5_shownAt_7 : decode cX5_shownAt 7 = .ok (.iload_n 1, 1) := by decide +kernel
theorem dX5_shownAt_8 : decode cX5_shownAt 8 = .ok (.iload_n 2, 1) := by decide +kernel
theorem dX5_shownAt_9 : decode cX5_shownAt 9 = .ok (.invokestatic 120, 3) := by decide +kernel
theorem dX5_shownAt_12 : decode cX5_shownAt 12 = .ok (.iaload, 1) := by decide +kernel
theorem dX5_shownAt_13 : decode cX5_shownAt 13 = .ok (.ireturn, 1) := by decide +kernel
set_option maxRecDepth 20000 in
theorem ggX5_drift_X5_pictureOrNull : GoodIn wsX5_drift wsX5_pictureOrNull := goodIn_r _ [9, 10, 11, 19, 20, 21, 22, 23, 24, 25, 26, 27, 28, 29, 30, 31, 32] (by decide +kernel) (by decide +kernel)
set_option maxRecDepth 20000 in
theorem gX5_drift_X5_pictureOrNull : GoodIn wsX5_drift (wsV RX5 211 RX5 yX5_pictureOrNull wsX5_pictureOrNull) := goodIn_app (goodIn_of _ (by decide +kernel)) ggX5_drift_X5_pictureOrNull
set_option maxRecDepth 20000 in
theorem ggX5_drift_X5_distance : GoodIn wsX5_drift wsX5_distance := goodIn_r _ [14, 15, 16, 17, 18] (by decide +kernel) (by decide +kernel)
set_option maxRecDepth 20000 in
theorem gX5_drift_X5_distance : GoodIn wsX5_drift (va_wsS RX5 231 yX5_distance wsX5_distance) := goodIn_app (goodIn_of _ (by decide +kernel)) ggX5_drift_X5_distance
theorem dX5_drift_0 : decode cX5_drift 0 = .ok (.aload_n 0, 1) := by decide +kernel
theorem dX5_drift_1 : decode cX5_drift 1 = .ok (.aload_n 0, 1) := by decide +kernel
theorem dX5_drift_2 : decode cX5_drift 2 = .ok (.getfield 36, 3) := by decide +kernel
theorem dX5_drift_5 : decode cX5_drift 5 = .ok (.getfield 208, 3) := by decide +kernel
theorem dX5_drift_8 : decode cX5_drift 8 = .ok (.iconst 1, 1) := by decide +kernel
theorem dX5_drift_9 : decode cX5_drift 9 = .ok (.isub, 1) := by decide +kernel
theorem dX5_drift_10 : decode cX5_drift 10 = .ok (.invokevirtual 211, 3) := by decide +kernel
theorem dX5_drift_13 : decode cX5_drift 13 = .ok (.astore_n 1, 1) := by decide +kernel
theorem dX5_drift_14 : decode cX5_drift 14 = .ok (.aload_n 1, 1) := by decide +kernel
theorem dX5_drift_15 : decode cX5_drift 15 = .ok (.ifnonnull 7, 3) := by decide +kernel
theorem dX5_drift_18 : decode cX5_drift 18 = .ok (.iconst 0, 1) := by decide +kernel
theorem dX5_drift_19 : decode cX5_drift 19 = .ok (.goto 17, 3) := by decide +kernel
theorem dX5_drift_22 : decode cX5_drift 22 = .ok (.aload_n 0, 1) := by decide +kernel
theorem dX5_drift_23 : decode cX5_drift 23 = .ok (.getfield 36, 3) := by decide +kernel
theorem dX5_drift_26 : decode cX5_drift 26 = .ok (.getfield 228, 3) := by decide +kernel
theorem dX5_drift_29 : decode cX5_drift 29 = .ok (.aload_n 1, 1) := by decide +kernel
theorem dX5_drift_30 : decode cX5_drift 30 = .ok (.getfield 186, 3) := by decide +kernel
theorem dX5_drift_33 : decode cX5_drift 33 = .ok (.invokestatic 231, 3) := by decide +kernel
theorem dX5_drift_36 : decode cX5_drift 36 = .ok (.ireturn, 1) := by decide +kernel
set_option maxRecDepth 20000 in
theorem ggX5_bytesWith_X5_isWithin : GoodIn wsX5_bytesWith wsX5_isWithin := goodIn_r _ [8] (by decide +kernel) (by decide +kernel)
set_option maxRecDepth 20000 in
theorem gX5_bytesWith_X5_isWithin : GoodIn wsX5_bytesWith (va_wsS RX5 71 yX5_isWithin wsX5_isWithin) := goodIn_app (goodIn_of _ (by decide +kernel)) ggX5_bytesWith_X5_isWithin
set_option maxRecDepth 20000 in
theorem ggX5_bytesWith_X5_refuseIfFull : GoodIn wsX5_bytesWith wsX5_refuseIfFull := goodIn_ca (goodIn_r _ [12, 13, 14, 15, 274, 275, 276, 277, 278, 279, 280, 281, 282, 283, 284, 285, 286, 287] (by decide +kernel) (by decide +kernel)) (goodIn_sub (fun _ h => List.mem_cons_of_mem _ (List.mem_append_right _ h)) (by decide +kernel))
set_option maxRecDepth 20000 in
theorem gX5_bytesWith_X5_refuseIfFull : GoodIn wsX5_bytesWith (wsV RX5 133 RX5 yX5_refuseIfFull wsX5_refuseIfFull) := goodIn_app (goodIn_of _ (by decide +kernel)) ggX5_bytesWith_X5_refuseIfFull
set_option maxRecDepth 20000 in
theorem ggX5_bytesWith_X5_draftNext : GoodIn wsX5_bytesWith wsX5_draftNext := goodIn_r _ [19, 15, 20, 21, 22, 4, 23, 24, 25, 26, 27, 28, 29, 30, 31, 7, 32, 33, 34, 35, 36, 37, 38, 39, 40, 41, 42, 43, 44, 45, 46, 47, 48, 49, 50, 51, 52, 53, 54, 55, 56, 57, 58, 59, 60, 61, 62, 63, 64, 65, 66, 67, 68, 69, 70, 71, 72, 73, 74, 75, 76, 77, 78, 79, 80, 81, 82, 83, 84, 85, 86, 87, 88, 89, 90, 91, 92, 93, 94, 95, 96, 97, 98, 99, 100, 101, 102, 103, 104, 105, 106, 107, 108, 109, 110, 111, 112, 113, 114, 115, 116, 117, 118, 119, 120, 121, 122, 123, 124, 6, 8, 125, 126, 127, 128, 129, 130, 131, 132, 133, 134, 135, 136, 137, 138, 139, 140, 141, 142, 143, 144, 145, 146, 147, 148, 149, 150, 151, 152, 153, 154, 155, 156, 157, 158, 159, 160, 161, 162, 163, 164, 165, 166, 167, 168, 169, 170, 171, 172, 173, 174, 175, 176, 177, 178, 179, 180, 181, 182, 183, 184, 185, 186, 187, 188, 189, 190, 191, 192, 193, 194, 195, 196, 197, 198, 199, 200, 201, 202, 203, 204, 274, 275, 276, 277, 278, 279, 280, 281, 282, 283, 284, 285, 286, 287, 288, 289, 290, 291, 292, 293, 294, 295, 296, 297, 298, 299, 300, 301, 302, 303, 304, 305, 306, 307, 308, 309, 310] (by decide +kernel) (by decide +kernel)
set_option maxRecDepth 20000 in
theorem gX5_bytesWith_X5_draftNext : GoodIn wsX5_bytesWith (wsV RX5 136 RX5 yX5_draftNext wsX5_draftNext) := goodIn_app (goodIn_of _ (by decide +kernel)) ggX5_bytesWith_X5_draftNext
set_option maxRecDepth 20000 in
theorem ggX5_bytesWith_X1_write : GoodIn wsX5_bytesWith wsX1_write := goodIn_r _ [209, 210, 211, 212, 213, 144, 145, 146, 214, 215, 216, 208, 217, 218, 219, 220, 221, 222, 223, 224, 225, 226, 227, 228, 229, 230, 231, 232, 233, 234, 235, 236, 237, 238, 239, 240, 241, 242, 243, 244, 94, 95, 96, 97, 98, 99, 7, 100, 245, 246, 247, 248, 249, 250, 251, 102, 103, 104, 105, 252, 253, 254, 255, 256, 257, 258, 259, 260, 261, 262, 263, 264, 311, 312, 313, 314, 293, 294, 295, 296, 297, 298, 299, 300, 301, 302, 303, 304, 305, 306] (by decide +kernel) (by decide +kernel)
set_option maxRecDepth 20000 in
theorem gX5_bytesWith_X1_write : GoodIn wsX5_bytesWith (wsV RX5 140 RX1 yX1_write wsX1_write) := goodIn_app (goodIn_of _ (by decide +kernel)) ggX5_bytesWith_X1_write
set_option maxRecDepth 20000 in
theorem ggX5_bytesWith_X2_bytesInAll : GoodIn wsX5_bytesWith wsX2_bytesInAll := goodIn_r _ [268, 269, 270, 271, 96, 272, 273, 261, 262, 263, 264, 293, 294, 295, 296, 297, 298, 299, 300, 301, 302, 303, 304, 305, 306] (by decide +kernel) (by decide +kernel)
set_option maxRecDepth 20000 in
theorem gX5_bytesWith_X2_bytesInAll : GoodIn wsX5_bytesWith (wsV RX5 144 RX2 yX2_bytesInAll wsX2_bytesInAll) := goodIn_app (goodIn_of _ (by decide +kernel)) ggX5_bytesWith_X2_bytesInAll
theorem dX5_bytesWith_0 : decode cX5_bytesWith 0 = .ok (.iload_n 1, 1) := by decide +kernel
theorem dX5_bytesWith_1 : decode cX5_bytesWith 1 = .ok (.iconst 1, 1) := by decide +kernel
theorem dX5_bytesWith_2 : decode cX5_bytesWith 2 = .ok (.bipush 60, 2) := by decide +kernel
theorem dX5_bytesWith_4 : decode cX5_bytesWith 4 = .ok (.invokestatic 71, 3) := by decide +kernel
theorem dX5_bytesWith_7 : decode cX5_bytesWith 7 = .ok (.ifCond .ne 13, 3) := by decide +kernel
theorem dX5_bytesWith_10 : decode cX5_bytesWith 10 = .ok (.new 75, 3) := by decide +kernel
theorem dX5_bytesWith_13 : decode cX5_bytesWith 13 = .ok (.dup, 1) := by decide +kernel
theorem dX5_bytesWith_14 : decode cX5_bytesWith 14 = .ok (.ldc 123, 2) := by decide +kernel
theorem dX5_bytesWith_16 : decode cX5_bytesWith 16 = .ok (.invokespecial 79, 3) := by decide +kernel
theorem dX5_bytesWith_19 : decode cX5_bytesWith 19 = .ok (.athrow, 1) := by decide +kernel
theorem dX5_bytesWith_20 : decode cX5_bytesWith 20 = .ok (.aload_n 0, 1) := by decide +kernel
theorem dX5_bytesWith_21 : decode cX5_bytesWith 21 = .ok (.invokevirtual 133, 3) := by decide +kernel
theorem dX5_bytesWith_24 : decode cX5_bytesWith 24 = .ok (.aload_n 0, 1) := by decide +kernel
theorem dX5_bytesWith_25 : decode cX5_bytesWith 25 = .ok (.iload_n 1, 1) := by decide +kernel
theorem dX5_bytesWith_26 : decode cX5_bytesWith 26 = .ok (.invokevirtual 136, 3) := by decide +kernel
theorem dX5_bytesWith_29 : decode cX5_bytesWith 29 = .ok (.aload_n 0, 1) := by decide +kernel
theorem dX5_bytesWith_30 : decode cX5_bytesWith 30 = .ok (.getfield 29, 3) := by decide +kernel
theorem dX5_bytesWith_33 : decode cX5_bytesWith 33 = .ok (.aload_n 0, 1) := by decide +kernel
theorem dX5_bytesWith_34 : decode cX5_bytesWith 34 = .ok (.getfield 44, 3) := by decide +kernel
theorem dX5_bytesWith_37 : decode cX5_bytesWith 37 = .ok (.invokevirtual 140, 3) := by decide +kernel
theorem dX5_bytesWith_40 : decode cX5_bytesWith 40 = .ok (.aload_n 0, 1) := by decide +kernel
theorem dX5_bytesWith_41 : decode cX5_bytesWith 41 = .ok (.getfield 44, 3) := by decide +kernel
theorem dX5_bytesWith_44 : decode cX5_bytesWith 44 = .ok (.invokevirtual 144, 3) := by decide +kernel
theorem dX5_bytesWith_47 : decode cX5_bytesWith 47 = .ok (.ireturn, 1) := by decide +kernel
set_option maxRecDepth 20000 in
theorem ggX5_priceOf_X5_placeIn : GoodIn wsX5_priceOf wsX5_placeIn := goodIn_ca (goodIn_r _ [7, 8, 9] (by decide +kernel) (by decide +kernel)) (goodIn_sub (fun _ h => List.mem_cons_of_mem _ (List.mem_append_left _ (List.mem_append_right _ h))) (by decide +kernel))
set_option maxRecDepth 20000 in
theorem gX5_priceOf_X5_placeIn : GoodIn wsX5_priceOf (va_wsS RX5 171 yX5_placeIn wsX5_placeIn) := goodIn_app (goodIn_of _ (by decide +kernel)) ggX5_priceOf_X5_placeIn
set_option maxRecDepth 20000 in
theorem ggX5_priceOf_X5_refuseIfFull : GoodIn wsX5_priceOf wsX5_refuseIfFull := goodIn_ca (goodIn_r _ [13, 14, 15, 16, 208, 209, 210, 211, 212, 213, 214, 215, 216, 217, 218, 219, 220, 221] (by decide +kernel) (by decide +kernel)) (goodIn_sub (fun _ h => List.mem_cons_of_mem _ (List.mem_append_right _ h)) (by decide +kernel))
set_option maxRecDepth 20000 in
theorem gX5_priceOf_X5_refuseIfFull : GoodIn wsX5_priceOf (wsV RX5 133 RX5 yX5_refuseIfFull wsX5_refuseIfFull) := goodIn_app (goodIn_of _ (by decide +kernel)) ggX5_priceOf_X5_refuseIfFull
set_option maxRecDepth 20000 in
theorem ggX5_priceOf_X5_draftNext : GoodIn wsX5_priceOf wsX5_draftNext := goodIn_r _ [20, 16, 21, 22, 23, 2, 24, 25, 26, 27, 28, 29, 30, 31, 32, 6, 33, 34, 35, 36, 37, 38, 39, 40, 41, 42, 43, 44, 45, 46, 47, 48, 49, 50, 51, 52, 53, 54, 55, 56, 57, 58, 59, 60, 61, 62, 63, 64, 65, 66, 67, 68, 69, 70, 71, 72, 73, 74, 75, 76, 77, 78, 79, 80, 81, 82, 83, 84, 85, 86, 87, 88, 89, 90, 91, 92, 93, 94, 95, 96, 97, 98, 99, 100, 101, 102, 103, 104, 105, 106, 107, 108, 109, 110, 111, 112, 113, 114, 115, 116, 117, 118, 119, 120, 121, 122, 123, 124, 125, 126, 127, 128, 129, 130, 131, 132, 133, 134, 135, 136, 137, 138, 139, 140, 141, 142, 143, 144, 145, 146, 147, 148, 149, 150, 151, 152, 153, 154, 155, 156, 157, 158, 159, 160, 161, 162, 163, 164, 165, 166, 167, 168, 169, 170, 171, 172, 173, 174, 175, 176, 177, 178, 179, 180, 181, 182, 183, 184, 185, 186, 187, 188, 189, 190, 191, 192, 193, 194, 195, 196, 197, 198, 199, 200, 201, 202, 203, 204, 205, 206, 207, 208, 209, 210, 211, 212, 213, 214, 215, 216, 217, 218, 219, 220, 221, 236, 237, 238, 239, 240, 222, 223, 224, 225, 226, 227, 228, 229, 230, 231, 232, 233, 234, 235, 241, 242, 243, 244] (by decide +kernel) (by decide +kernel)
set_option maxRecDepth 20000 in
theorem gX5_priceOf_X5_draftNext : GoodIn wsX5_priceOf (wsV RX5 136 RX5 yX5_draftNext wsX5_draftNext) := goodIn_app (goodIn_of _ (by decide +kernel)) ggX5_priceOf_X5_draftNext
theorem dX5_priceOf_0 : decode cX5_priceOf 0 = .ok (.iload_n 1, 1) := by decide +kernel
theorem dX5_priceOf_1 : decode cX5_priceOf 1 = .ok (.bipush 12, 2) := by decide +kernel
theorem dX5_priceOf_3 : decode cX5_priceOf 3 = .ok (.invokestatic 171, 3) := by decide +kernel
theorem dX5_priceOf_6 : decode cX5_priceOf 6 = .ok (.istore_n 2, 1) := by decide +kernel
theorem dX5_priceOf_7 : decode cX5_priceOf 7 = .ok (.aload_n 0, 1) := by decide +kernel
theorem dX5_priceOf_8 : decode cX5_priceOf 8 = .ok (.invokevirtual 133, 3) := by decide +kernel
theorem dX5_priceOf_11 : decode cX5_priceOf 11 = .ok (.aload_n 0, 1) := by decide +kernel
theorem dX5_priceOf_12 : decode cX5_priceOf 12 = .ok (.aload_n 0, 1) := by decide +kernel
theorem dX5_priceOf_13 : decode cX5_priceOf 13 = .ok (.getfield 55, 3) := by decide +kernel
theorem dX5_priceOf_16 : decode cX5_priceOf 16 = .ok (.invokevirtual 136, 3) := by decide +kernel
theorem dX5_priceOf_19 : decode cX5_priceOf 19 = .ok (.aload_n 0, 1) := by decide +kernel
theorem dX5_priceOf_20 : decode cX5_priceOf 20 = .ok (.getfield 44, 3) := by decide +kernel
theorem dX5_priceOf_23 : decode cX5_priceOf 23 = .ok (.getfield 239, 3) := by decide +kernel
theorem dX5_priceOf_26 : decode cX5_priceOf 26 = .ok (.iload_n 2, 1) := by decide +kernel
theorem dX5_priceOf_27 : decode cX5_priceOf 27 = .ok (.iaload, 1) := by decide +kernel
theorem dX5_priceOf_28 : decode cX5_priceOf 28 = .ok (.ireturn, 1) := by decide +kernel
set_option maxRecDepth 20000 in
theorem ggX5_driftNext_X5_pictureOrNull : GoodIn wsX5_driftNext wsX5_pictureOrNull := goodIn_r _ [10, 11, 12, 131, 132, 133, 134, 135, 136, 137, 138, 139, 140, 141, 142, 143, 144] (by decide +kernel) (by decide +kernel)
set_option maxRecDepth 20000 in
theorem gX5_driftNext_X5_pictureOrNull : GoodIn wsX5_driftNext (wsV RX5 211 RX5 yX5_pictureOrNull wsX5_pictureOrNull) := goodIn_app (goodIn_of _ (by decide +kernel)) ggX5_driftNext_X5_pictureOrNull
set_option maxRecDepth 20000 in
theorem ggX5_driftNext_X4_make : GoodIn wsX5_driftNext wsX4_make := goodIn_r _ [17, 18, 19, 20, 21, 22, 23, 24, 25, 26, 27, 28, 29, 30, 31, 32, 33, 9, 34, 35, 36, 37, 38, 39, 40, 41, 42, 43, 44, 45, 46, 47, 48, 49, 50, 51, 52, 53, 54, 55, 56, 57, 58, 59, 60, 61, 62, 63, 64, 65, 66, 67, 68, 69, 70, 71, 72, 73, 74, 75, 76, 77, 78, 79, 80, 81, 82, 83, 84, 85, 86, 87, 88, 89, 90, 91, 92, 93, 94, 95, 96, 97, 98, 99, 100, 101, 102, 103, 104, 16, 105, 106, 107, 108, 109, 110, 111, 112, 113, 114, 115, 116, 117, 118, 119, 120, 121, 122, 123, 124, 125, 126, 145, 146, 147, 152, 153, 154, 155, 156, 157, 158, 159, 160, 161, 162, 163, 164, 165, 148, 149, 150, 151] (by decide +kernel) (by decide +kernel)
set_option maxRecDepth 20000 in
theorem gX5_driftNext_X4_make : GoodIn wsX5_driftNext (wsV RX5 219 RX4 yX4_make wsX4_make) := goodIn_app (goodIn_of _ (by decide +kernel)) ggX5_driftNext_X4_make
set_option maxRecDepth 20000 in
theorem ggX5_driftNext_X5_distance : GoodIn wsX5_driftNext wsX5_distance := goodIn_r _ [129, 130, 125, 37, 126] (by decide +kernel) (by decide +kernel)
set_option maxRecDepth 20000 in
theorem gX5_driftNext_X5_distance : GoodIn wsX5_driftNext (va_wsS RX5 231 yX5_distance wsX5_distance) := goodIn_app (goodIn_of _ (by decide +kernel)) ggX5_driftNext_X5_distance
theorem dX5_driftNext_0 : decode cX5_driftNext 0 = .ok (.aload_n 0, 1) := by decide +kernel
theorem dX5_driftNext_1 : decode cX5_driftNext 1 = .ok (.aload_n 0, 1) := by decide +kernel
theorem dX5_driftNext_2 : decode cX5_driftNext 2 = .ok (.getfield 36, 3) := by decide +kernel
theorem dX5_driftNext_5 : decode cX5_driftNext 5 = .ok (.getfield 208, 3) := by decide +kernel
theorem dX5_driftNext_8 : decode cX5_driftNext 8 = .ok (.invokevirtual 211, 3) := by decide +kernel
theorem dX5_driftNext_11 : decode cX5_driftNext 11 = .ok (.astore_n 1, 1) := by decide +kernel
theorem dX5_driftNext_12 : decode cX5_driftNext 12 = .ok (.aload_n 1, 1) := by decide +kernel
theorem dX5_driftNext_13 : decode cX5_driftNext 13 = .ok (.ifnonnull 5, 3) := by decide +kernel
theorem dX5_driftNext_16 : decode cX5_driftNext 16 = .ok (.iconst (-1), 1) := by decide +kernel
theorem dX5_driftNext_17 : decode cX5_driftNext 17 = .ok (.ireturn, 1) := by decide +kernel
theorem dX5_driftNext_18 : decode cX5_driftNext 18 = .ok (.aload_n 0, 1) := by decide +kernel
theorem dX5_driftNext_19 : decode cX5_driftNext 19 = .ok (.getfield 36, 3) := by decide +kernel
theorem dX5_driftNext_22 : decode cX5_driftNext 22 = .ok (.aload_n 1, 1) := by decide +kernel
theorem dX5_driftNext_23 : decode cX5_driftNext 23 = .ok (.invokevirtual 219, 3) := by decide +kernel
theorem dX5_driftNext_26 : decode cX5_driftNext 26 = .ok (.aload_n 0, 1) := by decide +kernel
theorem dX5_driftNext_27 : decode cX5_driftNext 27 = .ok (.getfield 36, 3) := by decide +kernel
theorem dX5_driftNext_30 : decode cX5_driftNext 30 = .ok (.getfield 242, 3) := by decide +kernel
theorem dX5_driftNext_33 : decode cX5_driftNext 33 = .ok (.getfield 246, 3) := by decide +kernel
theorem dX5_driftNext_36 : decode cX5_driftNext 36 = .ok (.aload_n 1, 1) := by decide +kernel
theorem dX5_driftNext_37 : decode cX5_driftNext 37 = .ok (.getfield 186, 3) := by decide +kernel
theorem dX5_driftNext_40 : decode cX5_driftNext 40 = .ok (.invokestatic 231, 3) := by decide +kernel
theorem dX5_driftNext_43 : decode cX5_driftNext 43 = .ok (.ireturn, 1) := by decide +kernel
set_option maxRecDepth 20000 in
theorem ggX5_bytesOfAll_X5_pictureAt : GoodIn wsX5_bytesOfAll wsX5_pictureAt := goodIn_ca (goodIn_r _ [6, 7, 8, 9, 10, 11, 5, 12, 1, 13, 28, 29, 30, 31, 32, 33, 34, 35, 36, 37, 38, 39, 40, 41] (by decide +kernel) (by decide +kernel)) (goodIn_sub (fun _ h => List.mem_cons_of_mem _ (List.mem_append_right _ h)) (by decide +kernel))
set_option maxRecDepth 20000 in
theorem gX5_bytesOfAll_X5_pictureAt : GoodIn wsX5_bytesOfAll (wsV RX5 161 RX5 yX5_pictureAt wsX5_pictureAt) := goodIn_app (goodIn_of _ (by decide +kernel)) ggX5_bytesOfAll_X5_pictureAt
set_option maxRecDepth 20000 in
theorem ggX5_bytesOfAll_X2_bytesInAll : GoodIn wsX5_bytesOfAll wsX2_bytesInAll := goodIn_r _ [18, 19, 20, 21, 17, 22, 23, 24, 25, 26, 27, 42, 43, 44, 45, 46, 47, 48, 49, 50, 51, 52, 53, 54, 55] (by decide +kernel) (by decide +kernel)
set_option maxRecDepth 20000 in
theorem gX5_bytesOfAll_X2_bytesInAll : GoodIn wsX5_bytesOfAll (wsV RX5 144 RX2 yX2_bytesInAll wsX2_bytesInAll) := goodIn_app (goodIn_of _ (by decide +kernel)) ggX5_bytesOfAll_X2_bytesInAll
theorem dX5_bytesOfAll_0 : decode cX5_bytesOfAll 0 = .ok (.iconst 0, 1) := by decide +kernel
theorem dX5_bytesOfAll_1 : decode cX5_bytesOfAll 1 = .ok (.istore_n 1, 1) := by decide +kernel
theorem dX5_bytesOfAll_2 : decode cX5_bytesOfAll 2 = .ok (.iconst 0, 1) := by decide +kernel
theorem dX5_bytesOfAll_3 : decode cX5_bytesOfAll 3 = .ok (.istore_n 2, 1) := by decide +kernel
theorem dX5_bytesOfAll_4 : decode cX5_bytesOfAll 4 = .ok (.iload_n 2, 1) := by decide +kernel
theorem dX5_bytesOfAll_5 : decode cX5_bytesOfAll 5 = .ok (.aload_n 0, 1) := by decide +kernel
theorem dX5_bytesOfAll_6 : decode cX5_bytesOfAll 6 = .ok (.getfield 48, 3) := by decide +kernel
theorem dX5_bytesOfAll_9 : decode cX5_bytesOfAll 9 = .ok (.if_icmp .ge 20, 3) := by decide +kernel
theorem dX5_bytesOfAll_12 : decode cX5_bytesOfAll 12 = .ok (.iload_n 1, 1) := by decide +kernel
theorem dX5_bytesOfAll_13 : decode cX5_bytesOfAll 13 = .ok (.aload_n 0, 1) := by decide +kernel
theorem dX5_bytesOfAll_14 : decode cX5_bytesOfAll 14 = .ok (.iload_n 2, 1) := by decide +kernel
theorem dX5_bytesOfAll_15 : decode cX5_bytesOfAll 15 = .ok (.invokevirtual 161, 3) := by decide +kernel
theorem dX5_bytesOfAll_18 : decode cX5_bytesOfAll 18 = .ok (.invokevirtual 144, 3) := by decide +kernel
theorem dX5_bytesOfAll_21 : decode cX5_bytesOfAll 21 = .ok (.iadd, 1) := by decide +kernel
theorem dX5_bytesOfAll_22 : decode cX5_bytesOfAll 22 = .ok (.istore_n 1, 1) := by decide +kernel
theorem dX5_bytesOfAll_23 : decode cX5_bytesOfAll 23 = .ok (.iinc 2 1, 3) := by decide +kernel
theorem dX5_bytesOfAll_26 : decode cX5_bytesOfAll 26 = .ok (.goto (-22), 3) := by decide +kernel
theorem dX5_bytesOfAll_29 : decode cX5_bytesOfAll 29 = .ok (.iload_n 1, 1) := by decide +kernel
theorem dX5_bytesOfAll_30 : decode cX5_bytesOfAll 30 = .ok (.ireturn, 1) := by decide +kernel
set_option maxRecDepth 20000 in
theorem ggX5_meanError_X5_pictureAt : GoodIn wsX5_meanError wsX5_pictureAt := goodIn_ca (goodIn_r _ [7, 8, 9, 10, 11, 12, 6, 13, 1, 14, 15, 16, 17, 18, 19, 20, 21, 22, 23, 24, 25, 26, 27, 28] (by decide +kernel) (by decide +kernel)) (goodIn_sub (fun _ h => List.mem_cons_of_mem _ (List.mem_append_right _ h)) (by decide +kernel))
set_option maxRecDepth 20000 in
theorem gX5_meanError_X5_pictureAt : GoodIn wsX5_meanError (wsV RX5 161 RX5 yX5_pictureAt wsX5_pictureAt) := goodIn_app (goodIn_of _ (by decide +kernel)) ggX5_meanError_X5_pictureAt
theorem dX5_meanError_0 : decode cX5_meanError 0 = .ok (.aload_n 0, 1) := by decide +kernel
theorem dX5_meanError_1 : decode cX5_meanError 1 = .ok (.getfield 48, 3) := by decide +kernel
theorem dX5_meanError_4 : decode cX5_meanError 4 = .ok (.iconst 1, 1) := by decide +kernel
theorem dX5_meanError_5 : decode cX5_meanError 5 = .ok (.if_icmp .ge 5, 3) := by decide +kernel
theorem dX5_meanError_8 : decode cX5_meanError 8 = .ok (.dconst 0, 1) := by decide +kernel
theorem dX5_meanError_9 : decode cX5_meanError 9 = .ok (.dreturn, 1) := by decide +kernel
theorem dX5_meanError_10 : decode cX5_meanError 10 = .ok (.lconst 0, 1) := by decide +kernel
theorem dX5_meanError_11 : decode cX5_meanError 11 = .ok (.lstore_n 1, 1) := by decide +kernel
theorem dX5_meanError_12 : decode cX5_meanError 12 = .ok (.iconst 0, 1) := by decide +kernel
theorem dX5_meanError_13 : decode cX5_meanError 13 = .ok (.istore_n 3, 1) := by decide +kernel
theorem dX5_meanError_14 : decode cX5_meanError 14 = .ok (.iload_n 3, 1) := by decide +kernel
theorem dX5_meanError_15 : decode cX5_meanError 15 = .ok (.aload_n 0, 1) := by decide +kernel
theorem dX5_meanError_16 : decode cX5_meanError 16 = .ok (.getfield 48, 3) := by decide +kernel
theorem dX5_meanError_19 : decode cX5_meanError 19 = .ok (.if_icmp .ge 21, 3) := by decide +kernel
theorem dX5_meanError_22 : decode cX5_meanError 22 = .ok (.lload_n 1, 1) := by decide +kernel
theorem dX5_meanError_23 : decode cX5_meanError 23 = .ok (.aload_n 0, 1) := by decide +kernel
theorem dX5_meanError_24 : decode cX5_meanError 24 = .ok (.iload_n 3, 1) := by decide +kernel
theorem dX5_meanError_25 : decode cX5_meanError 25 = .ok (.invokevirtual 161, 3) := by decide +kernel
theorem dX5_meanError_28 : decode cX5_meanError 28 = .ok (.getfield 189, 3) := by decide +kernel
theorem dX5_meanError_31 : decode cX5_meanError 31 = .ok (.i2l, 1) := by decide +kernel
theorem dX5_meanError_32 : decode cX5_meanError 32 = .ok (.ladd, 1) := by decide +kernel
theorem dX5_meanError_33 : decode cX5_meanError 33 = .ok (.lstore_n 1, 1) := by decide +kernel
theorem dX5_meanError_34 : decode cX5_meanError 34 = .ok (.iinc 3 1, 3) := by decide +kernel
theorem dX5_meanError_37 : decode cX5_meanError 37 = .ok (.goto (-23), 3) := by decide +kernel
theorem dX5_meanError_40 : decode cX5_meanError 40 = .ok (.lload_n 1, 1) := by decide +kernel
theorem dX5_meanError_41 : decode cX5_meanError 41 = .ok (.l2d, 1) := by decide +kernel
theorem dX5_meanError_42 : decode cX5_meanError 42 = .ok (.aload_n 0, 1) := by decide +kernel
theorem dX5_meanError_43 : decode cX5_meanError 43 = .ok (.getfield 48, 3) := by decide +kernel
theorem dX5_meanError_46 : decode cX5_meanError 46 = .ok (.i2d, 1) := by decide +kernel
theorem dX5_meanError_47 : decode cX5_meanError 47 = .ok (.ddiv, 1) := by decide +kernel
theorem dX5_meanError_48 : decode cX5_meanError 48 = .ok (.dreturn, 1) := by decide +kernel
set_option maxRecDepth 20000 in
theorem ggX5_digest_X5_drift : GoodIn wsX5_digest wsX5_drift := goodIn_r _ [14, 5, 6, 9, 8, 15, 16, 17, 13, 18, 3, 19, 20, 21, 22, 23, 24, 25, 26, 76, 77, 78, 79, 80, 81, 82, 83, 84, 85, 86, 87, 88, 89, 90, 91, 92, 93, 94, 95, 96, 97, 98, 99, 100, 101, 102, 103, 104, 105, 106] (by decide +kernel) (by decide +kernel)
set_option maxRecDepth 20000 in
theorem gX5_digest_X5_drift : GoodIn wsX5_digest (wsV RX5 255 RX5 yX5_drift wsX5_drift) := goodIn_app (goodIn_of _ (by decide +kernel)) ggX5_digest_X5_drift
set_option maxRecDepth 20000 in
theorem ggX5_digest_X5_bytesOfAll : GoodIn wsX5_digest wsX5_bytesOfAll := goodIn_ca (goodIn_r _ [30, 3, 31, 32, 33, 13, 34, 35, 36, 15, 16, 17, 18, 19, 37, 38, 39, 40, 41, 42, 43, 44, 45, 46, 47, 48, 49, 50, 76, 77, 78, 79, 80, 81, 82, 83, 84, 85, 86, 87, 88, 89, 93, 94, 95, 96, 97, 98, 99, 100, 101, 102, 103, 104, 105, 106] (by decide +kernel) (by decide +kernel)) (goodIn_sub (fun _ h => List.mem_cons_of_mem _ (List.mem_append_right _ h)) (by decide +kernel))
set_option maxRecDepth 20000 in
theorem gX5_digest_X5_bytesOfAll : GoodIn wsX5_digest (wsV RX5 258 RX5 yX5_bytesOfAll wsX5_bytesOfAll) := goodIn_app (goodIn_of _ (by decide +kernel)) ggX5_digest_X5_bytesOfAll
set_option maxRecDepth 20000 in
theorem ggX5_digest_X5_pictureAt : GoodIn wsX5_digest wsX5_pictureAt := goodIn_ca (goodIn_r _ [34, 35, 36, 15, 16, 17, 13, 18, 3, 19, 76, 77, 78, 79, 80, 81, 82, 83, 84, 85, 86, 87, 88, 89] (by decide +kernel) (by decide +kernel)) (goodIn_sub (fun _ h => List.mem_cons_of_mem _ (List.mem_append_right _ h)) (by decide +kernel))
set_option maxRecDepth 20000 in
theorem gX5_digest_X5_pictureAt : GoodIn wsX5_digest (wsV RX5 161 RX5 yX5_pictureAt wsX5_pictureAt) := goodIn_app (goodIn_of _ (by decide +kernel)) ggX5_digest_X5_pictureAt
set_option maxRecDepth 20000 in
theorem ggX5_digest_X2_digestOn : GoodIn wsX5_digest wsX2_digestOn := goodIn_r _ [54, 55, 56, 57, 58, 59, 60, 61, 62, 63, 64, 40, 65, 66, 67, 68, 69, 70, 50, 71, 72, 46, 47, 48, 49, 42, 43, 44, 45, 93, 94, 95, 96, 97, 98, 99, 100, 101, 102, 103, 104, 105, 106] (by decide +kernel) (by decide +kernel)
set_option maxRecDepth 20000 in
theorem gX5_digest_X2_digestOn : GoodIn wsX5_digest (wsV RX5 261 RX2 yX2_digestOn wsX2_digestOn) := goodIn_app (goodIn_of _ (by decide +kernel)) ggX5_digest_X2_digestOn
set_option maxRecDepth 20000 in
theorem ggX5_digest_X5_digestPoints : GoodIn wsX5_digest wsX5_digestPoints := goodIn_r _ [75, 2] (by decide +kernel) (by decide +kernel)
set_option maxRecDepth 20000 in
theorem gX5_digest_X5_digestPoints : GoodIn wsX5_digest (va_wsS RX5 265 yX5_digestPoints wsX5_digestPoints) := goodIn_app (goodIn_of _ (by decide +kernel)) ggX5_digest_X5_digestPoints
set_option maxRecDepth 20000 in
theorem ggX5_digest_X5_pictureOrNull : GoodIn wsX5_digest wsX5_pictureOrNull := goodIn_r _ [18, 3, 19, 76, 77, 78, 79, 80, 81, 82, 83, 84, 85, 86, 87, 88, 89] (by decide +kernel) (by decide +kernel)
set_option maxRecDepth 20000 in
theorem gX5_digest_X5_pictureOrNull : GoodIn wsX5_digest (wsV RX5 211 RX5 yX5_pictureOrNull wsX5_pictureOrNull) := goodIn_app (goodIn_of _ (by decide +kernel)) ggX5_digest_X5_pictureOrNull
theorem dX5_digest_0 : decode cX5_digest 0 = .ok (.ldc2_w 251, 3) := by decide +kernel
theorem dX5_digest_3 : decode cX5_digest 3 = .ok (.lstore_n 1, 1) := by decide +kernel
theorem dX5_digest_4 : decode cX5_digest 4 = .ok (.lload_n 1, 1) := by decide +kernel
theorem dX5_digest_5 : decode cX5_digest 5 = .ok (.ldc2_w 253, 3) := by decide +kernel
theorem dX5_digest_8 : decode cX5_digest 8 = .ok (.lmul, 1) := by decide +kernel
theorem dX5_digest_9 : decode cX5_digest 9 = .ok (.aload_n 0, 1) := by decide +kernel
theorem dX5_digest_10 : decode cX5_digest 10 = .ok (.getfield 48, 3) := by decide +kernel
theorem dX5_digest_13 : decode cX5_digest 13 = .ok (.i2l, 1) := by decide +kernel
theorem dX5_digest_14 : decode cX5_digest 14 = .ok (.ladd, 1) := by decide +kernel
theorem dX5_digest_15 : decode cX5_digest 15 = .ok (.lstore_n 1, 1) := by decide +kernel
theorem dX5_digest_16 : decode cX5_digest 16 = .ok (.lload_n 1, 1) := by decide +kernel
theorem dX5_digest_17 : decode cX5_digest 17 = .ok (.ldc2_w 253, 3) := by decide +kernel
theorem dX5_digest_20 : decode cX5_digest 20 = .ok (.lmul, 1) := by decide +kernel
theorem dX5_digest_21 : decode cX5_digest 21 = .ok (.aload_n 0, 1) := by decide +kernel
theorem dX5_digest_22 : decode cX5_digest 22 = .ok (.getfield 55, 3) := by decide +kernel
theorem dX5_digest_25 : decode cX5_digest 25 = .ok (.i2l, 1) := by decide +kernel
theorem dX5_digest_26 : decode cX5_digest 26 = .ok (.ladd, 1) := by decide +kernel
theorem dX5_digest_27 : decode cX5_digest 27 = .ok (.lstore_n 1, 1) := by decide +kernel
theorem dX5_digest_28 : decode cX5_digest 28 = .ok (.lload_n 1, 1) := by decide +kernel
theorem dX5_digest_29 : decode cX5_digest 29 = .ok (.ldc2_w 253, 3) := by decide +kernel
theorem dX5_digest_32 : decode cX5_digest 32 = .ok (.lmul, 1) := by decide +kernel
theorem dX5_digest_33 : decode cX5_digest 33 = .ok (.aload_n 0, 1) := by decide +kernel
theorem dX5_digest_34 : decode cX5_digest 34 = .ok (.getfield 36, 3) := by decide +kernel
theorem dX5_digest_37 : decode cX5_digest 37 = .ok (.getfield 208, 3) := by decide +kernel
theorem dX5_digest_40 : decode cX5_digest 40 = .ok (.i2l, 1) := by decide +kernel
theorem dX5_digest_41 : decode cX5_digest 41 = .ok (.ladd, 1) := by decide +kernel
theorem dX5_digest_42 : decode cX5_digest 42 = .ok (.lstore_n 1, 1) := by decide +kernel
theorem dX5_digest_43 : decode cX5_digest 43 = .ok (.lload_n 1, 1) := by decide +kernel
theorem dX5_digest_44 : decode cX5_digest 44 = .ok (.ldc2_w 253, 3) := by decide +kernel
theorem dX5_digest_47 : decode cX5_digest 47 = .ok (.lmul, 1) := by decide +kernel
theorem dX5_digest_48 : decode cX5_digest 48 = .ok (.aload_n 0, 1) := by decide +kernel
theorem dX5_digest_49 : decode cX5_digest 49 = .ok (.invokevirtual 255, 3) := by decide +kernel
theorem dX5_digest_52 : decode cX5_digest 52 = .ok (.i2l, 1) := by decide +kernel
theorem dX5_digest_53 : decode cX5_digest 53 = .ok (.ladd, 1) := by decide +kernel
theorem dX5_digest_54 : decode cX5_digest 54 = .ok (.lstore_n 1, 1) := by decide +kernel
theorem dX5_digest_55 : decode cX5_digest 55 = .ok (.lload_n 1, 1) := by decide +kernel
theorem dX5_digest_56 : decode cX5_digest 56 = .ok (.ldc2_w 253, 3) := by decide +kernel
theorem dX5_digest_59 : decode cX5_digest 59 = .ok (.lmul, 1) := by decide +kernel
theorem dX5_digest_60 : decode cX5_digest 60 = .ok (.aload_n 0, 1) := by decide +kernel
theorem dX5_digest_61 : decode cX5_digest 61 = .ok (.invokevirtual 258, 3) := by decide +kernel
theorem dX5_digest_64 : decode cX5_digest 64 = .ok (.i2l, 1) := by decide +kernel
theorem dX5_digest_65 : decode cX5_digest 65 = .ok (.ladd, 1) := by decide +kernel
theorem dX5_digest_66 : decode cX5_digest 66 = .ok (.lstore_n 1, 1) := by decide +kernel
theorem dX5_digest_67 : decode cX5_digest 67 = .ok (.iconst 0, 1) := by decide +kernel
theorem dX5_digest_68 : decode cX5_digest 68 = .ok (.istore_n 3, 1) := by decide +kernel
theorem dX5_digest_69 : decode cX5_digest 69 = .ok (.iload_n 3, 1) := by decide +kernel
theorem dX5_digest_70 : decode cX5_digest 70 = .ok (.aload_n 0, 1) := by decide +kernel
theorem dX5_digest_71 : decode cX5_digest 71 = .ok (.getfield 48, 3) := by decide +kernel
theorem dX5_digest_74 : decode cX5_digest 74 = .ok (.if_icmp .ge 19, 3) := by decide +kernel
theorem dX5_digest_77 : decode cX5_digest 77 = .ok (.aload_n 0, 1) := by decide +kernel
theorem dX5_digest_78 : decode cX5_digest 78 = .ok (.iload_n 3, 1) := by decide +kernel
theorem dX5_digest_79 : decode cX5_digest 79 = .ok (.invokevirtual 161, 3) := by decide +kernel
theorem dX5_digest_82 : decode cX5_digest 82 = .ok (.lload_n 1, 1) := by decide +kernel
theorem dX5_digest_83 : decode cX5_digest 83 = .ok (.invokevirtual 261, 3) := by decide +kernel
theorem dX5_digest_86 : decode cX5_digest 86 = .ok (.lstore_n 1, 1) := by decide +kernel
theorem dX5_digest_87 : decode cX5_digest 87 = .ok (.iinc 3 1, 3) := by decide +kernel
theorem dX5_digest_90 : decode cX5_digest 90 = .ok (.goto (-21), 3) := by decide +kernel
theorem dX5_digest_93 : decode cX5_digest 93 = .ok (.lload_n 1, 1) := by decide +kernel
theorem dX5_digest_94 : decode cX5_digest 94 = .ok (.aload_n 0, 1) := by decide +kernel
theorem dX5_digest_95 : decode cX5_digest 95 = .ok (.getfield 9, 3) := by decide +kernel
theorem dX5_digest_98 : decode cX5_digest 98 = .ok (.invokestatic 265, 3) := by decide +kernel
theorem dX5_digest_101 : decode cX5_digest 101 = .ok (.lstore_n 1, 1) := by decide +kernel
theorem dX5_digest_102 : decode cX5_digest 102 = .ok (.aload_n 0, 1) := by decide +kernel
theorem dX5_digest_103 : decode cX5_digest 103 = .ok (.aload_n 0, 1) := by decide +kernel
theorem dX5_digest_104 : decode cX5_digest 104 = .ok (.getfield 48, 3) := by decide +kernel
theorem dX5_digest_107 : decode cX5_digest 107 = .ok (.iconst 1, 1) := by decide +kernel
theorem dX5_digest_108 : decode cX5_digest 108 = .ok (.isub, 1) := by decide +kernel
theorem dX5_digest_109 : decode cX5_digest 109 = .ok (.invokevirtual 211, 3) := by decide +kernel
theorem dX5_digest_112 : decode cX5_digest 112 = .ok (.astore_n 3, 1) := by decide +kernel
theorem dX5_digest_113 : decode cX5_digest 113 = .ok (.aload_n 3, 1) := by decide +kernel
theorem dX5_digest_114 : decode cX5_digest 114 = .ok (.ifnull 12, 3) := by decide +kernel
theorem dX5_digest_117 : decode cX5_digest 117 = .ok (.lload_n 1, 1) := by decide +kernel
theorem dX5_digest_118 : decode cX5_digest 118 = .ok (.aload_n 3, 1) := by decide +kernel
theorem dX5_digest_119 : decode cX5_digest 119 = .ok (.getfield 186, 3) := by decide +kernel
theorem dX5_digest_122 : decode cX5_digest 122 = .ok (.invokestatic 265, 3) := by decide +kernel
theorem dX5_digest_125 : decode cX5_digest 125 = .ok (.lstore_n 1, 1) := by decide +kernel
theorem dX5_digest_126 : decode cX5_digest 126 = .ok (.lload_n 1, 1) := by decide +kernel
theorem dX5_digest_127 : decode cX5_digest 127 = .ok (.aload_n 0, 1) := by decide +kernel
theorem dX5_digest_128 : decode cX5_digest 128 = .ok (.getfield 36, 3) := by decide +kernel
theorem dX5_digest_131 : decode cX5_digest 131 = .ok (.getfield 228, 3) := by decide +kernel
theorem dX5_digest_134 : decode cX5_digest 134 = .ok (.invokestatic 265, 3) := by decide +kernel
theorem dX5_digest_137 : decode cX5_digest 137 = .ok (.lreturn, 1) := by decide +kernel
theorem dX5_isWithin_0 : decode cX5_isWithin 0 = .ok (.iload_n 0, 1) := by decide +kernel
theorem dX5_isWithin_1 : decode cX5_isWithin 1 = .ok (.iload_n 1, 1) := by decide +kernel
theorem dX5_isWithin_2 : decode cX5_isWithin 2 = .ok (.if_icmp .lt 12, 3) := by decide +kernel
theorem dX5_isWithin_5 : decode cX5_isWithin 5 = .ok (.iload_n 0, 1) := by decide +kernel
theorem dX5_isWithin_6 : decode cX5_isWithin 6 = .ok (.iload_n 2, 1) := by decide +kernel
theorem dX5_isWithin_7 : decode cX5_isWithin 7 = .ok (.if_icmp .gt 7, 3) := by decide +kernel
theorem dX5_isWithin_10 : decode cX5_isWithin 10 = .ok (.iconst 1, 1) := by decide +kernel
theorem dX5_isWithin_11 : decode cX5_isWithin 11 = .ok (.goto 4, 3) := by decide +kernel
theorem dX5_isWithin_14 : decode cX5_isWithin 14 = .ok (.iconst 0, 1) := by decide +kernel
theorem dX5_isWithin_15 : decode cX5_isWithin 15 = .ok (.ireturn, 1) := by decide +kernel
theorem dX5_clip_0 : decode cX5_clip 0 = .ok (.iload_n 0, 1) := by decide +kernel
theorem dX5_clip_1 : decode cX5_clip 1 = .ok (.ifCond .ge 7, 3) := by decide +kernel
theorem dX5_clip_4 : decode cX5_clip 4 = .ok (.iconst 0, 1) := by decide +kernel
theorem dX5_clip_5 : decode cX5_clip 5 = .ok (.goto 17, 3) := by decide +kernel
theorem dX5_clip_8 : decode cX5_clip 8 = .ok (.iload_n 0, 1) := by decide +kernel
theorem dX5_clip_9 : decode cX5_clip 9 = .ok (.sipush 255, 3) := by decide +kernel
theorem dX5_clip_12 : decode cX5_clip 12 = .ok (.if_icmp .le 9, 3) := by decide +kernel
theorem dX5_clip_15 : decode cX5_clip 15 = .ok (.sipush 255, 3) := by decide +kernel
theorem dX5_clip_18 : decode cX5_clip 18 = .ok (.goto 4, 3) := by decide +kernel
theorem dX5_clip_21 : decode cX5_clip 21 = .ok (.iload_n 0, 1) := by decide +kernel
theorem dX5_clip_22 : decode cX5_clip 22 = .ok (.ireturn, 1) := by decide +kernel
theorem dX5_onRow_0 : decode cX5_onRow 0 = .ok (.iconst 0, 1) := by decide +kernel
theorem dX5_onRow_1 : decode cX5_onRow 1 = .ok (.iload_n 0, 1) := by decide +kernel
theorem dX5_onRow_2 : decode cX5_onRow 2 = .ok (.iload_n 1, 1) := by decide +kernel
theorem dX5_onRow_3 : decode cX5_onRow 3 = .ok (.iconst 1, 1) := by decide +kernel
theorem dX5_onRow_4 : decode cX5_onRow 4 = .ok (.isub, 1) := by decide +kernel
theorem dX5_onRow_5 : decode cX5_onRow 5 = .ok (.invokestatic 92, 3) := by decide +kernel
theorem dX5_onRow_8 : decode cX5_onRow 8 = .ok (.invokestatic 86, 3) := by decide +kernel
theorem dX5_onRow_11 : decode cX5_onRow 11 = .ok (.ireturn, 1) := by decide +kernel
theorem dX5_placeIn_0 : decode cX5_placeIn 0 = .ok (.iload_n 0, 1) := by decide +kernel
theorem dX5_placeIn_1 : decode cX5_placeIn 1 = .ok (.ifCond .lt 8, 3) := by decide +kernel
theorem dX5_placeIn_4 : decode cX5_placeIn 4 = .ok (.iload_n 0, 1) := by decide +kernel
theorem dX5_placeIn_5 : decode cX5_placeIn 5 = .ok (.iload_n 1, 1) := by decide +kernel
theorem dX5_placeIn_6 : decode cX5_placeIn 6 = .ok (.if_icmp .lt 14, 3) := by decide +kernel
theorem dX5_placeIn_9 : decode cX5_placeIn 9 = .ok (.new 269, 3) := by decide +kernel
theorem dX5_placeIn_12 : decode cX5_placeIn 12 = .ok (.dup, 1) := by decide +kernel
theorem dX5_placeIn_13 : decode cX5_placeIn 13 = .ok (.ldc_w 271, 3) := by decide +kernel
theorem dX5_placeIn_16 : decode cX5_placeIn 16 = .ok (.invokespecial 273, 3) := by decide +kernel
theorem dX5_placeIn_19 : decode cX5_placeIn 19 = .ok (.athrow, 1) := by decide +kernel
theorem dX5_placeIn_20 : decode cX5_placeIn 20 = .ok (.iload_n 0, 1) := by decide +kernel
theorem dX5_placeIn_21 : decode cX5_placeIn 21 = .ok (.ireturn, 1) := by decide +kernel
set_option maxRecDepth 20000 in
theorem ggX5_pointAt_X5_placeIn : GoodIn wsX5_pointAt wsX5_placeIn := goodIn_ca (goodIn_r _ [4, 5, 6] (by decide +kernel) (by decide +kernel)) (goodIn_sub (fun _ h => List.mem_cons_of_mem _ (List.mem_append_right _ h)) (by decide +kernel))
set_option maxRecDepth 20000 in
theorem gX5_pointAt_X5_placeIn : GoodIn wsX5_pointAt (va_wsS RX5 171 yX5_placeIn wsX5_placeIn) := goodIn_app (goodIn_of _ (by decide +kernel)) ggX5_pointAt_X5_placeIn
theorem dX5_pointAt_0 : decode cX5_pointAt 0 = .ok (.iload_n 1, 1) := by decide +kernel
theorem dX5_pointAt_1 : decode cX5_pointAt 1 = .ok (.bipush 24, 2) := by decide +kernel
theorem dX5_pointAt_3 : decode cX5_pointAt 3 = .ok (.invokestatic 171, 3) := by decide +kernel
theorem dX5_pointAt_6 : decode cX5_pointAt 6 = .ok (.bipush 32, 2) := by decide +kernel
theorem dX5_pointAt_8 : decode cX5_pointAt 8 = .ok (.imul, 1) := by decide +kernel
theorem dX5_pointAt_9 : decode cX5_pointAt 9 = .ok (.iload_n 0, 1) := by decide +kernel
theorem dX5_pointAt_10 : decode cX5_pointAt 10 = .ok (.bipush 32, 2) := by decide +kernel
theorem dX5_pointAt_12 : decode cX5_pointAt 12 = .ok (.invokestatic 171, 3) := by decide +kernel
theorem dX5_pointAt_15 : decode cX5_pointAt 15 = .ok (.iadd, 1) := by decide +kernel
theorem dX5_pointAt_16 : decode cX5_pointAt 16 = .ok (.ireturn, 1) := by decide +kernel
theorem dX5_firstPointOf_0 : decode cX5_firstPointOf 0 = .ok (.iload_n 0, 1) := by decide +kernel
theorem dX5_firstPointOf_1 : decode cX5_firstPointOf 1 = .ok (.iconst 4, 1) := by decide +kernel
theorem dX5_firstPointOf_2 : decode cX5_firstPointOf 2 = .ok (.idiv, 1) := by decide +kernel
theorem dX5_firstPointOf_3 : decode cX5_firstPointOf 3 = .ok (.bipush 8, 2) := by decide +kernel
theorem dX5_firstPointOf_5 : decode cX5_firstPointOf 5 = .ok (.imul, 1) := by decide +kernel
theorem dX5_firstPointOf_6 : decode cX5_firstPointOf 6 = .ok (.bipush 32, 2) := by decide +kernel
theorem dX5_firstPointOf_8 : decode cX5_firstPointOf 8 = .ok (.imul, 1) := by decide +kernel
theorem dX5_firstPointOf_9 : decode cX5_firstPointOf 9 = .ok (.iload_n 0, 1) := by decide +kernel
theorem dX5_firstPointOf_10 : decode cX5_firstPointOf 10 = .ok (.iconst 4, 1) := by decide +kernel
theorem dX5_firstPointOf_11 : decode cX5_firstPointOf 11 = .ok (.irem, 1) := by decide +kernel
theorem dX5_firstPointOf_12 : decode cX5_firstPointOf 12 = .ok (.bipush 8, 2) := by decide +kernel
theorem dX5_firstPointOf_14 : decode cX5_firstPointOf 14 = .ok (.imul, 1) := by decide +kernel
theorem dX5_firstPointOf_15 : decode cX5_firstPointOf 15 = .ok (.iadd, 1) := by decide +kernel
theorem dX5_firstPointOf_16 : decode cX5_firstPointOf 16 = .ok (.ireturn, 1) := by decide +kernel
theorem dX5_isFirstOfBand_0 : decode cX5_isFirstOfBand 0 = .ok (.iload_n 0, 1) := by decide +kernel
theorem dX5_isFirstOfBand_1 : decode cX5_isFirstOfBand 1 = .ok (.iconst 4, 1) := by decide +kernel
theorem dX5_isFirstOfBand_2 : decode cX5_isFirstOfBand 2 = .ok (.irem, 1) := by decide +kernel
theorem dX5_isFirstOfBand_3 : decode cX5_isFirstOfBand 3 = .ok (.ifCond .ne 7, 3) := by decide +kernel
theorem dX5_isFirstOfBand_6 : decode cX5_isFirstOfBand 6 = .ok (.iconst 1, 1) := by decide +kernel
theorem dX5_isFirstOfBand_7 : decode cX5_isFirstOfBand 7 = .ok (.goto 4, 3) := by decide +kernel
theorem dX5_isFirstOfBand_10 : decode cX5_isFirstOfBand 10 = .ok (.iconst 0, 1) := by decide +kernel
theorem dX5_isFirstOfBand_11 : decode cX5_isFirstOfBand 11 = .ok (.ireturn, 1) := by decide +kernel
theorem dX5_folded_0 : decode cX5_folded 0 = .ok (.iload_n 0, 1) := by decide +kernel
theorem dX5_folded_1 : decode cX5_folded 1 = .ok (.ifCond .le 11, 3) := by decide +kernel
theorem dX5_folded_4 : decode cX5_folded 4 = .ok (.iconst 2, 1) := by decide +kernel
theorem dX5_folded_5 : decode cX5_folded 5 = .ok (.iload_n 0, 1) := by decide +kernel
theorem dX5_folded_6 : decode cX5_folded 6 = .ok (.imul, 1) := by decide +kernel
theorem dX5_folded_7 : decode cX5_folded 7 = .ok (.iconst 1, 1) := by decide +kernel
theorem dX5_folded_8 : decode cX5_folded 8 = .ok (.isub, 1) := by decide +kernel
theorem dX5_folded_9 : decode cX5_folded 9 = .ok (.goto 7, 3) := by decide +kernel
theorem dX5_folded_12 : decode cX5_folded 12 = .ok (.bipush (-2), 2) := by decide +kernel
theorem dX5_folded_14 : decode cX5_folded 14 = .ok (.iload_n 0, 1) := by decide +kernel
theorem dX5_folded_15 : decode cX5_folded 15 = .ok (.imul, 1) := by decide +kernel
theorem dX5_folded_16 : decode cX5_folded 16 = .ok (.ireturn, 1) := by decide +kernel
theorem dX5_distance_0 : decode cX5_distance 0 = .ok (.iconst 0, 1) := by decide +kernel
theorem dX5_distance_1 : decode cX5_distance 1 = .ok (.istore_n 2, 1) := by decide +kernel
theorem dX5_distance_2 : decode cX5_distance 2 = .ok (.iconst 0, 1) := by decide +kernel
theorem dX5_distance_3 : decode cX5_distance 3 = .ok (.istore_n 3, 1) := by decide +kernel
theorem dX5_distance_4 : decode cX5_distance 4 = .ok (.iload_n 3, 1) := by decide +kernel
theorem dX5_distance_5 : decode cX5_distance 5 = .ok (.sipush 768, 3) := by decide +kernel
theorem dX5_distance_8 : decode cX5_distance 8 = .ok (.if_icmp .ge 22, 3) := by decide +kernel
theorem dX5_distance_11 : decode cX5_distance 11 = .ok (.iload_n 2, 1) := by decide +kernel
theorem dX5_distance_12 : decode cX5_distance 12 = .ok (.aload_n 0, 1) := by decide +kernel
theorem dX5_distance_13 : decode cX5_distance 13 = .ok (.iload_n 3, 1) := by decide +kernel
theorem dX5_distance_14 : decode cX5_distance 14 = .ok (.iaload, 1) := by decide +kernel
theorem dX5_distance_15 : decode cX5_distance 15 = .ok (.aload_n 1, 1) := by decide +kernel
theorem dX5_distance_16 : decode cX5_distance 16 = .ok (.iload_n 3, 1) := by decide +kernel
theorem dX5_distance_17 : decode cX5_distance 17 = .ok (.iaload, 1) := by decide +kernel
theorem dX5_distance_18 : decode cX5_distance 18 = .ok (.isub, 1) := by decide +kernel
theorem dX5_distance_19 : decode cX5_distance 19 = .ok (.invokestatic 274, 3) := by decide +kernel
theorem dX5_distance_22 : decode cX5_distance 22 = .ok (.iadd, 1) := by decide +kernel
theorem dX5_distance_23 : decode cX5_distance 23 = .ok (.istore_n 2, 1) := by decide +kernel
theorem dX5_distance_24 : decode cX5_distance 24 = .ok (.iinc 3 1, 3) := by decide +kernel
theorem dX5_distance_27 : decode cX5_distance 27 = .ok (.goto (-23), 3) := by decide +kernel
theorem dX5_distance_30 : decode cX5_distance 30 = .ok (.iload_n 2, 1) := by decide +kernel
theorem dX5_distance_31 : decode cX5_distance 31 = .ok (.ireturn, 1) := by decide +kernel
theorem dX5_digestPoints_0 : decode cX5_digestPoints 0 = .ok (.lload_n 0, 1) := by decide +kernel
theorem dX5_digestPoints_1 : decode cX5_digestPoints 1 = .ok (.lstore_n 3, 1) := by decide +kernel
theorem dX5_digestPoints_2 : decode cX5_digestPoints 2 = .ok (.iconst 0, 1) := by decide +kernel
theorem dX5_digestPoints_3 : decode cX5_digestPoints 3 = .ok (.istore 5, 2) := by decide +kernel
theorem dX5_digestPoints_5 : decode cX5_digestPoints 5 = .ok (.iload 5, 2) := by decide +kernel
theorem dX5_digestPoints_7 : decode cX5_digestPoints 7 = .ok (.sipush 768, 3) := by decide +kernel
theorem dX5_digestPoints_10 : decode cX5_digestPoints 10 = .ok (.if_icmp .ge 21, 3) := by decide +kernel
theorem dX5_digestPoints_13 : decode cX5_digestPoints 13 = .ok (.lload_n 3, 1) := by decide +kernel
theorem dX5_digestPoints_14 : decode cX5_digestPoints 14 = .ok (.ldc2_w 253, 3) := by decide +kernel
theorem dX5_digestPoints_17 : decode cX5_digestPoints 17 = .ok (.lmul, 1) := by decide +kernel
theorem dX5_digestPoints_18 : decode cX5_digestPoints 18 = .ok (.aload_n 2, 1) := by decide +kernel
theorem dX5_digestPoints_19 : decode cX5_digestPoints 19 = .ok (.iload 5, 2) := by decide +kernel
theorem dX5_digestPoints_21 : decode cX5_digestPoints 21 = .ok (.iaload, 1) := by decide +kernel
theorem dX5_digestPoints_22 : decode cX5_digestPoints 22 = .ok (.i2l, 1) := by decide +kernel
theorem dX5_digestPoints_23 : decode cX5_digestPoints 23 = .ok (.ladd, 1) := by decide +kernel
theorem dX5_digestPoints_24 : decode cX5_digestPoints 24 = .ok (.lstore_n 3, 1) := by decide +kernel
theorem dX5_digestPoints_25 : decode cX5_digestPoints 25 = .ok (.iinc 5 1, 3) := by decide +kernel
theorem dX5_digestPoints_28 : decode cX5_digestPoints 28 = .ok (.goto (-23), 3) := by decide +kernel
theorem dX5_digestPoints_31 : decode cX5_digestPoints 31 = .ok (.lload_n 3, 1) := by decide +kernel
theorem dX5_digestPoints_32 : decode cX5_digestPoints 32 = .ok (.lreturn, 1) := by decide +kernel
theorem dX5_pictureOrNull_0 : decode cX5_pictureOrNull 0 = .ok (.iload_n 1, 1) := by decide +kernel
theorem dX5_pictureOrNull_1 : decode cX5_pictureOrNull 1 = .ok (.ifCond .lt 17, 3) := by decide +kernel
theorem dX5_pictureOrNull_4 : decode cX5_pictureOrNull 4 = .ok (.iload_n 1, 1) := by decide +kernel
theorem dX5_pictureOrNull_5 : decode cX5_pictureOrNull 5 = .ok (.aload_n 0, 1) := by decide +kernel
theorem dX5_pictureOrNull_6 : decode cX5_pictureOrNull 6 = .ok (.getfield 48, 3) := by decide +kernel
theorem dX5_pictureOrNull_9 : decode cX5_pictureOrNull 9 = .ok (.if_icmp .ge 9, 3) := by decide +kernel
theorem dX5_pictureOrNull_12 : decode cX5_pictureOrNull 12 = .ok (.iload_n 1, 1) := by decide +kernel
theorem dX5_pictureOrNull_13 : decode cX5_pictureOrNull 13 = .ok (.bipush 24, 2) := by decide +kernel
theorem dX5_pictureOrNull_15 : decode cX5_pictureOrNull 15 = .ok (.if_icmp .lt 7, 3) := by decide +kernel
theorem dX5_pictureOrNull_18 : decode cX5_pictureOrNull 18 = .ok (.aconst_null, 1) := by decide +kernel
theorem dX5_pictureOrNull_19 : decode cX5_pictureOrNull 19 = .ok (.goto 9, 3) := by decide +kernel
theorem dX5_pictureOrNull_22 : decode cX5_pictureOrNull 22 = .ok (.aload_n 0, 1) := by decide +kernel
theorem dX5_pictureOrNull_23 : decode cX5_pictureOrNull 23 = .ok (.getfield 15, 3) := by decide +kernel
theorem dX5_pictureOrNull_26 : decode cX5_pictureOrNull 26 = .ok (.iload_n 1, 1) := by decide +kernel
theorem dX5_pictureOrNull_27 : decode cX5_pictureOrNull 27 = .ok (.aaload, 1) := by decide +kernel
theorem dX5_pictureOrNull_28 : decode cX5_pictureOrNull 28 = .ok (.areturn, 1) := by decide +kernel
set_option maxRecDepth 20000 in
theorem ggX5_pictureAt_X5_pictureOrNull : GoodIn wsX5_pictureAt wsX5_pictureOrNull := goodIn_r _ [7, 8, 9, 10, 11, 12, 13, 14, 15, 16, 17, 18, 19, 20, 21, 22, 23] (by decide +kernel) (by decide +kernel)
set_option maxRecDepth 20000 in
theorem gX5_pictureAt_X5_pictureOrNull : GoodIn wsX5_pictureAt (wsV RX5 211 RX5 yX5_pictureOrNull wsX5_pictureOrNull) := goodIn_app (goodIn_of _ (by decide +kernel)) ggX5_pictureAt_X5_pictureOrNull
theorem dX5_pictureAt_0 : decode cX5_pictureAt 0 = .ok (.aload_n 0, 1) := by decide +kernel
theorem dX5_pictureAt_1 : decode cX5_pictureAt 1 = .ok (.iload_n 1, 1) := by decide +kernel
theorem dX5_pictureAt_2 : decode cX5_pictureAt 2 = .ok (.invokevirtual 211, 3) := by decide +kernel
theorem dX5_pictureAt_5 : decode cX5_pictureAt 5 = .ok (.astore_n 2, 1) := by decide +kernel
theorem dX5_pictureAt_6 : decode cX5_pictureAt 6 = .ok (.aload_n 2, 1) := by decide +kernel
theorem dX5_pictureAt_7 : decode cX5_pictureAt 7 = .ok (.ifnonnull 14, 3) := by decide +kernel
theorem dX5_pictureAt_10 : decode cX5_pictureAt 10 = .ok (.new 269, 3) := by decide +kernel
theorem dX5_pictureAt_13 : decode cX5_pictureAt 13 = .ok (.dup, 1) := by decide +kernel
theorem dX5_pictureAt_14 : decode cX5_pictureAt 14 = .ok (.ldc_w 277, 3) := by decide +kernel
theorem dX5_pictureAt_17 : decode cX5_pictureAt 17 = .ok (.invokespecial 273, 3) := by decide +kernel
theorem dX5_pictureAt_20 : decode cX5_pictureAt 20 = .ok (.athrow, 1) := by decide +kernel
theorem dX5_pictureAt_21 : decode cX5_pictureAt 21 = .ok (.aload_n 2, 1) := by decide +kernel
theorem dX5_pictureAt_22 : decode cX5_pictureAt 22 = .ok (.areturn, 1) := by decide +kernel
theorem dX5_refuseIfFull_0 : decode cX5_refuseIfFull 0 = .ok (.aload_n 0, 1) := by decide +kernel
theorem dX5_refuseIfFull_1 : decode cX5_refuseIfFull 1 = .ok (.getfield 48, 3) := by decide +kernel
theorem dX5_refuseIfFull_4 : decode cX5_refuseIfFull 4 = .ok (.bipush 24, 2) := by decide +kernel
theorem dX5_refuseIfFull_6 : decode cX5_refuseIfFull 6 = .ok (.if_icmp .lt 14, 3) := by decide +kernel
theorem dX5_refuseIfFull_9 : decode cX5_refuseIfFull 9 = .ok (.new 214, 3) := by decide +kernel
theorem dX5_refuseIfFull_12 : decode cX5_refuseIfFull 12 = .ok (.dup, 1) := by decide +kernel
theorem dX5_refuseIfFull_13 : decode cX5_refuseIfFull 13 = .ok (.ldc_w 279, 3) := by decide +kernel
theorem dX5_refuseIfFull_16 : decode cX5_refuseIfFull 16 = .ok (.invokespecial 218, 3) := by decide +kernel
theorem dX5_refuseIfFull_19 : decode cX5_refuseIfFull 19 = .ok (.athrow, 1) := by decide +kernel
theorem dX5_refuseIfFull_20 : decode cX5_refuseIfFull 20 = .ok (.return_, 1) := by decide +kernel
theorem dX5_isKeyDue_0 : decode cX5_isKeyDue 0 = .ok (.aload_n 0, 1) := by decide +kernel
theorem dX5_isKeyDue_1 : decode cX5_isKeyDue 1 = .ok (.getfield 48, 3) := by decide +kernel
theorem dX5_isKeyDue_4 : decode cX5_isKeyDue 4 = .ok (.ifCond .eq 23, 3) := by decide +kernel
theorem dX5_isKeyDue_7 : decode cX5_isKeyDue 7 = .ok (.aload_n 0, 1) := by decide +kernel
theorem dX5_isKeyDue_8 : decode cX5_isKeyDue 8 = .ok (.getfield 68, 3) := by decide +kernel
theorem dX5_isKeyDue_11 : decode cX5_isKeyDue 11 = .ok (.ifCond .ne 16, 3) := by decide +kernel
theorem dX5_isKeyDue_14 : decode cX5_isKeyDue 14 = .ok (.aload_n 0, 1) := by decide +kernel
theorem dX5_isKeyDue_15 : decode cX5_isKeyDue 15 = .ok (.getfield 52, 3) := by decide +kernel
theorem dX5_isKeyDue_18 : decode cX5_isKeyDue 18 = .ok (.aload_n 0, 1) := by decide +kernel
theorem dX5_isKeyDue_19 : decode cX5_isKeyDue 19 = .ok (.getfield 61, 3) := by decide +kernel
theorem dX5_isKeyDue_22 : decode cX5_isKeyDue 22 = .ok (.iconst 1, 1) := by decide +kernel
theorem dX5_isKeyDue_23 : decode cX5_isKeyDue 23 = .ok (.isub, 1) := by decide +kernel
theorem dX5_isKeyDue_24 : decode cX5_isKeyDue 24 = .ok (.if_icmp .lt 7, 3) := by decide +kernel
theorem dX5_isKeyDue_27 : decode cX5_isKeyDue 27 = .ok (.iconst 1, 1) := by decide +kernel
theorem dX5_isKeyDue_28 : decode cX5_isKeyDue 28 = .ok (.goto 4, 3) := by decide +kernel
theorem dX5_isKeyDue_31 : decode cX5_isKeyDue 31 = .ok (.iconst 0, 1) := by decide +kernel
theorem dX5_isKeyDue_32 : decode cX5_isKeyDue 32 = .ok (.ireturn, 1) := by decide +kernel
set_option maxRecDepth 20000 in
theorem ggX5_draftNext_X5_pictureOrNull : GoodIn wsX5_draftNext wsX5_pictureOrNull := goodIn_r _ [16, 1, 17, 191, 192, 193, 194, 195, 196, 197, 198, 199, 200, 201, 202, 203, 204] (by decide +kernel) (by decide +kernel)
set_option maxRecDepth 20000 in
theorem gX5_draftNext_X5_pictureOrNull : GoodIn wsX5_draftNext (wsV RX5 211 RX5 yX5_pictureOrNull wsX5_pictureOrNull) := goodIn_app (goodIn_of _ (by decide +kernel)) ggX5_draftNext_X5_pictureOrNull
set_option maxRecDepth 20000 in
theorem ggX5_draftNext_X3_lookAhead : GoodIn wsX5_draftNext wsX3_lookAhead := goodIn_r _ [22, 23, 24, 15, 25, 26, 27, 28, 29, 30, 31, 32, 224, 225, 226, 227] (by decide +kernel) (by decide +kernel)
set_option maxRecDepth 20000 in
theorem gX5_draftNext_X3_lookAhead : GoodIn wsX5_draftNext (wsV RX5 282 RX3 yX3_lookAhead wsX3_lookAhead) := goodIn_app (goodIn_of _ (by decide +kernel)) ggX5_draftNext_X3_lookAhead
set_option maxRecDepth 20000 in
theorem ggX5_draftNext_X5_isKeyDue : GoodIn wsX5_draftNext wsX5_isKeyDue := goodIn_r _ [36, 1, 37, 38, 39, 191, 192, 193, 194, 195, 196, 197, 198, 199, 200, 201, 202, 203, 204] (by decide +kernel) (by decide +kernel)
set_option maxRecDepth 20000 in
theorem gX5_draftNext_X5_isKeyDue : GoodIn wsX5_draftNext (wsV RX5 129 RX5 yX5_isKeyDue wsX5_isKeyDue) := goodIn_app (goodIn_of _ (by decide +kernel)) ggX5_draftNext_X5_isKeyDue
set_option maxRecDepth 20000 in
theorem ggX5_draftNext_X0_codeAll : GoodIn wsX5_draftNext wsX0_codeAll := goodIn_r _ [44, 45, 46, 47, 48, 49, 50, 51, 52, 53, 43, 54, 55, 56, 57, 58, 59, 60, 61, 62, 63, 64, 65, 66, 67, 68, 69, 70, 71, 72, 73, 74, 75, 28, 76, 77, 78, 79, 80, 81, 82, 83, 15, 84, 85, 86, 87, 88, 89, 90, 91, 92, 21, 93, 94, 95, 96, 97, 98, 99, 100, 101, 102, 103, 104, 23, 105, 106, 107, 108, 109, 110, 111, 112, 113, 114, 115, 116, 117, 118, 119, 120, 121, 122, 123, 124, 125, 126, 127, 128, 129, 130, 131, 132, 133, 134, 135, 136, 137, 138, 139, 140, 141, 142, 143, 144, 145, 146, 147, 148, 149, 150, 151, 152, 153, 154, 155, 156, 157, 158, 159, 160, 161, 162, 163, 164, 165, 166, 167, 168, 169, 170, 171, 172, 173, 174, 175, 176, 177, 178, 179, 180, 181, 210, 211, 212, 213, 214, 215, 216, 217, 218, 219, 220, 221, 222, 223, 205, 206, 207, 208, 209, 224, 225, 226, 227] (by decide +kernel) (by decide +kernel)
set_option maxRecDepth 20000 in
theorem gX5_draftNext_X0_codeAll : GoodIn wsX5_draftNext (wsV RX5 292 RX0 yX0_codeAll wsX0_codeAll) := goodIn_app (goodIn_of _ (by decide +kernel)) ggX5_draftNext_X0_codeAll
set_option maxRecDepth 20000 in
theorem ggX5_draftNext_X2_freshBlocks : GoodIn wsX5_draftNext wsX2_freshBlocks := goodIn_r _ [185, 186, 187, 188, 80, 189, 190, 210, 211, 212, 213, 214, 215, 216, 217, 218, 219, 220, 221, 222, 223] (by decide +kernel) (by decide +kernel)
set_option maxRecDepth 20000 in
theorem gX5_draftNext_X2_freshBlocks : GoodIn wsX5_draftNext (wsV RX5 296 RX2 yX2_freshBlocks wsX2_freshBlocks) := goodIn_app (goodIn_of _ (by decide +kernel)) ggX5_draftNext_X2_freshBlocks
theorem dX5_draftNext_0 : decode cX5_draftNext 0 = .ok (.aload_n 0, 1) := by decide +kernel
theorem dX5_draftNext_1 : decode cX5_draftNext 1 = .ok (.aload_n 0, 1) := by decide +kernel
theorem dX5_draftNext_2 : decode cX5_draftNext 2 = .ok (.getfield 48, 3) := by decide +kernel
theorem dX5_draftNext_5 : decode cX5_draftNext 5 = .ok (.iconst 1, 1) := by decide +kernel
theorem dX5_draftNext_6 : decode cX5_draftNext 6 = .ok (.isub, 1) := by decide +kernel
theorem dX5_draftNext_7 : decode cX5_draftNext 7 = .ok (.invokevirtual 211, 3) := by decide +kernel
theorem dX5_draftNext_10 : decode cX5_draftNext 10 = .ok (.astore_n 2, 1) := by decide +kernel
theorem dX5_draftNext_11 : decode cX5_draftNext 11 = .ok (.aload_n 2, 1) := by decide +kernel
theorem dX5_draftNext_12 : decode cX5_draftNext 12 = .ok (.ifnull 17, 3) := by decide +kernel
theorem dX5_draftNext_15 : decode cX5_draftNext 15 = .ok (.aload_n 0, 1) := by decide +kernel
theorem dX5_draftNext_16 : decode cX5_draftNext 16 = .ok (.getfield 22, 3) := by decide +kernel
theorem dX5_draftNext_19 : decode cX5_draftNext 19 = .ok (.getfield 281, 3) := by decide +kernel
theorem dX5_draftNext_22 : decode cX5_draftNext 22 = .ok (.aload_n 2, 1) := by decide +kernel
theorem dX5_draftNext_23 : decode cX5_draftNext 23 = .ok (.getfield 186, 3) := by decide +kernel
theorem dX5_draftNext_26 : decode cX5_draftNext 26 = .ok (.invokevirtual 282, 3) := by decide +kernel
theorem dX5_draftNext_29 : decode cX5_draftNext 29 = .ok (.aload_n 0, 1) := by decide +kernel
theorem dX5_draftNext_30 : decode cX5_draftNext 30 = .ok (.getfield 44, 3) := by decide +kernel
theorem dX5_draftNext_33 : decode cX5_draftNext 33 = .ok (.aload_n 0, 1) := by decide +kernel
theorem dX5_draftNext_34 : decode cX5_draftNext 34 = .ok (.getfield 48, 3) := by decide +kernel
theorem dX5_draftNext_37 : decode cX5_draftNext 37 = .ok (.putfield 286, 3) := by decide +kernel
theorem dX5_draftNext_40 : decode cX5_draftNext 40 = .ok (.aload_n 0, 1) := by decide +kernel
theorem dX5_draftNext_41 : decode cX5_draftNext 41 = .ok (.getfield 44, 3) := by decide +kernel
theorem dX5_draftNext_44 : decode cX5_draftNext 44 = .ok (.iload_n 1, 1) := by decide +kernel
theorem dX5_draftNext_45 : decode cX5_draftNext 45 = .ok (.putfield 165, 3) := by decide +kernel
theorem dX5_draftNext_48 : decode cX5_draftNext 48 = .ok (.aload_n 0, 1) := by decide +kernel
theorem dX5_draftNext_49 : decode cX5_draftNext 49 = .ok (.getfield 44, 3) := by decide +kernel
theorem dX5_draftNext_52 : decode cX5_draftNext 52 = .ok (.aload_n 0, 1) := by decide +kernel
theorem dX5_draftNext_53 : decode cX5_draftNext 53 = .ok (.getfield 64, 3) := by decide +kernel
theorem dX5_draftNext_56 : decode cX5_draftNext 56 = .ok (.putfield 289, 3) := by decide +kernel
theorem dX5_draftNext_59 : decode cX5_draftNext 59 = .ok (.aload_n 0, 1) := by decide +kernel
theorem dX5_draftNext_60 : decode cX5_draftNext 60 = .ok (.getfield 44, 3) := by decide +kernel
theorem dX5_draftNext_63 : decode cX5_draftNext 63 = .ok (.aload_n 2, 1) := by decide +kernel
theorem dX5_draftNext_64 : decode cX5_draftNext 64 = .ok (.ifnull 10, 3) := by decide +kernel
theorem dX5_draftNext_67 : decode cX5_draftNext 67 = .ok (.aload_n 0, 1) := by decide +kernel
theorem dX5_draftNext_68 : decode cX5_draftNext 68 = .ok (.invokevirtual 129, 3) := by decide +kernel
theorem dX5_draftNext_71 : decode cX5_draftNext 71 = .ok (.ifCond .eq 7, 3) := by decide +kernel
theorem dX5_draftNext_74 : decode cX5_draftNext 74 = .ok (.iconst 1, 1) := by decide +kernel
theorem dX5_draftNext_75 : decode cX5_draftNext 75 = .ok (.goto 4, 3) := by decide +kernel
theorem dX5_draftNext_78 : decode cX5_draftNext 78 = .ok (.iconst 0, 1) := by decide +kernel
theorem dX5_draftNext_79 : decode cX5_draftNext 79 = .ok (.putfield 155, 3) := by decide +kernel
theorem dX5_draftNext_82 : decode cX5_draftNext 82 = .ok (.aload_n 0, 1) := by decide +kernel
theorem dX5_draftNext_83 : decode cX5_draftNext 83 = .ok (.getfield 22, 3) := by decide +kernel
theorem dX5_draftNext_86 : decode cX5_draftNext 86 = .ok (.aload_n 0, 1) := by decide +kernel
theorem dX5_draftNext_87 : decode cX5_draftNext 87 = .ok (.getfield 44, 3) := by decide +kernel
theorem dX5_draftNext_90 : decode cX5_draftNext 90 = .ok (.aload_n 0, 1) := by decide +kernel
theorem dX5_draftNext_91 : decode cX5_draftNext 91 = .ok (.getfield 9, 3) := by decide +kernel
theorem dX5_draftNext_94 : decode cX5_draftNext 94 = .ok (.invokevirtual 292, 3) := by decide +kernel
theorem dX5_draftNext_97 : decode cX5_draftNext 97 = .ok (.aload_n 0, 1) := by decide +kernel
theorem dX5_draftNext_98 : decode cX5_draftNext 98 = .ok (.getfield 44, 3) := by decide +kernel
theorem dX5_draftNext_101 : decode cX5_draftNext 101 = .ok (.getfield 155, 3) := by decide +kernel
theorem dX5_draftNext_104 : decode cX5_draftNext 104 = .ok (.ifCond .ne 38, 3) := by decide +kernel
theorem dX5_draftNext_107 : decode cX5_draftNext 107 = .ok (.aload_n 0, 1) := by decide +kernel
theorem dX5_draftNext_108 : decode cX5_draftNext 108 = .ok (.getfield 44, 3) := by decide +kernel
theorem dX5_draftNext_111 : decode cX5_draftNext 111 = .ok (.invokevirtual 296, 3) := by decide +kernel
theorem dX5_draftNext_114 : decode cX5_draftNext 114 = .ok (.bipush 8, 2) := by decide +kernel
theorem dX5_draftNext_116 : decode cX5_draftNext 116 = .ok (.if_icmp .le 26, 3) := by decide +kernel
theorem dX5_draftNext_119 : decode cX5_draftNext 119 = .ok (.aload_n 0, 1) := by decide +kernel
theorem dX5_draftNext_120 : decode cX5_draftNext 120 = .ok (.getfield 44, 3) := by decide +kernel
theorem dX5_draftNext_123 : decode cX5_draftNext 123 = .ok (.iconst 1, 1) := by decide +kernel
theorem dX5_draftNext_124 : decode cX5_draftNext 124 = .ok (.putfield 155, 3) := by decide +kernel
theorem dX5_draftNext_127 : decode cX5_draftNext 127 = .ok (.aload_n 0, 1) := by decide +kernel
theorem dX5_draftNext_128 : decode cX5_draftNext 128 = .ok (.getfield 22, 3) := by decide +kernel
theorem dX5_draftNext_131 : decode cX5_draftNext 131 = .ok (.aload_n 0, 1) := by decide +kernel
theorem dX5_draftNext_132 : decode cX5_draftNext 132 = .ok (.getfield 44, 3) := by decide +kernel
theorem dX5_draftNext_135 : decode cX5_draftNext 135 = .ok (.aload_n 0, 1) := by decide +kernel
theorem dX5_draftNext_136 : decode cX5_draftNext 136 = .ok (.getfield 9, 3) := by decide +kernel
theorem dX5_draftNext_139 : decode cX5_draftNext 139 = .ok (.invokevirtual 292, 3) := by decide +kernel
theorem dX5_draftNext_142 : decode cX5_draftNext 142 = .ok (.return_, 1) := by decide +kernel
set_option maxRecDepth 20000 in
theorem ggX5_steer_X2_bytesInAll : GoodIn wsX5_steer wsX2_bytesInAll := goodIn_r _ [15, 16, 17, 18, 14, 19, 20, 21, 22, 23, 24, 39, 40, 41, 42, 43, 44, 45, 46, 47, 48, 49, 50, 51, 52] (by decide +kernel) (by decide +kernel)
set_option maxRecDepth 20000 in
theorem gX5_steer_X2_bytesInAll : GoodIn wsX5_steer (wsV RX5 144 RX2 yX2_bytesInAll wsX2_bytesInAll) := goodIn_app (goodIn_of _ (by decide +kernel)) ggX5_steer_X2_bytesInAll
theorem dX5_steer_0 : decode cX5_steer 0 = .ok (.aload_n 0, 1) := by decide +kernel
theorem dX5_steer_1 : decode cX5_steer 1 = .ok (.getfield 58, 3) := by decide +kernel
theorem dX5_steer_4 : decode cX5_steer 4 = .ok (.ifCond .ne 4, 3) := by decide +kernel
theorem dX5_steer_7 : decode cX5_steer 7 = .ok (.return_, 1) := by decide +kernel
theorem dX5_steer_8 : decode cX5_steer 8 = .ok (.aload_n 1, 1) := by decide +kernel
theorem dX5_steer_9 : decode cX5_steer 9 = .ok (.invokevirtual 144, 3) := by decide +kernel
theorem dX5_steer_12 : decode cX5_steer 12 = .ok (.istore_n 2, 1) := by decide +kernel
theorem dX5_steer_13 : decode cX5_steer 13 = .ok (.aload_n 1, 1) := by decide +kernel
theorem dX5_steer_14 : decode cX5_steer 14 = .ok (.getfield 155, 3) := by decide +kernel
theorem dX5_steer_17 : decode cX5_steer 17 = .ok (.ifCond .eq 12, 3) := by decide +kernel
theorem dX5_steer_20 : decode cX5_steer 20 = .ok (.iconst 3, 1) := by decide +kernel
theorem dX5_steer_21 : decode cX5_steer 21 = .ok (.aload_n 0, 1) := by decide +kernel
theorem dX5_steer_22 : decode cX5_steer 22 = .ok (.getfield 58, 3) := by decide +kernel
theorem dX5_steer_25 : decode cX5_steer 25 = .ok (.imul, 1) := by decide +kernel
theorem dX5_steer_26 : decode cX5_steer 26 = .ok (.goto 7, 3) := by decide +kernel
theorem dX5_steer_29 : decode cX5_steer 29 = .ok (.aload_n 0, 1) := by decide +kernel
theorem dX5_steer_30 : decode cX5_steer 30 = .ok (.getfield 58, 3) := by decide +kernel
theorem dX5_steer_33 : decode cX5_steer 33 = .ok (.istore_n 3, 1) := by decide +kernel
theorem dX5_steer_34 : decode cX5_steer 34 = .ok (.iload_n 2, 1) := by decide +kernel
theorem dX5_steer_35 : decode cX5_steer 35 = .ok (.iconst 4, 1) := by decide +kernel
theorem dX5_steer_36 : decode cX5_steer 36 = .ok (.imul, 1) := by decide +kernel
theorem dX5_steer_37 : decode cX5_steer 37 = .ok (.iload_n 3, 1) := by decide +kernel
theorem dX5_steer_38 : decode cX5_steer 38 = .ok (.iconst 5, 1) := by decide +kernel
theorem dX5_steer_39 : decode cX5_steer 39 = .ok (.imul, 1) := by decide +kernel
theorem dX5_steer_40 : decode cX5_steer 40 = .ok (.if_icmp .le 28, 3) := by decide +kernel
theorem dX5_steer_43 : decode cX5_steer 43 = .ok (.aload_n 0, 1) := by decide +kernel
theorem dX5_steer_44 : decode cX5_steer 44 = .ok (.bipush 60, 2) := by decide +kernel
theorem dX5_steer_46 : decode cX5_steer 46 = .ok (.aload_n 0, 1) := by decide +kernel
theorem dX5_steer_47 : decode cX5_steer 47 = .ok (.getfield 55, 3) := by decide +kernel
theorem dX5_steer_50 : decode cX5_steer 50 = .ok (.iconst 1, 1) := by decide +kernel
theorem dX5_steer_51 : decode cX5_steer 51 = .ok (.iadd, 1) := by decide +kernel
theorem dX5_steer_52 : decode cX5_steer 52 = .ok (.aload_n 0, 1) := by decide +kernel
theorem dX5_steer_53 : decode cX5_steer 53 = .ok (.getfield 55, 3) := by decide +kernel
theorem dX5_steer_56 : decode cX5_steer 56 = .ok (.iconst 4, 1) := by decide +kernel
theorem dX5_steer_57 : decode cX5_steer 57 = .ok (.idiv, 1) := by decide +kernel
theorem dX5_steer_58 : decode cX5_steer 58 = .ok (.iadd, 1) := by decide +kernel
theorem dX5_steer_59 : decode cX5_steer 59 = .ok (.invokestatic 92, 3) := by decide +kernel
theorem dX5_steer_62 : decode cX5_steer 62 = .ok (.putfield 55, 3) := by decide +kernel
theorem dX5_steer_65 : decode cX5_steer 65 = .ok (.goto 26, 3) := by decide +kernel
theorem dX5_steer_68 : decode cX5_steer 68 = .ok (.iload_n 2, 1) := by decide +kernel
theorem dX5_steer_69 : decode cX5_steer 69 = .ok (.iconst 4, 1) := by decide +kernel
theorem dX5_steer_70 : decode cX5_steer 70 = .ok (.imul, 1) := by decide +kernel
theorem dX5_steer_71 : decode cX5_steer 71 = .ok (.iload_n 3, 1) := by decide +kernel
theorem dX5_steer_72 : decode cX5_steer 72 = .ok (.iconst 3, 1) := by decide +kernel
theorem dX5_steer_73 : decode cX5_steer 73 = .ok (.imul, 1) := by decide +kernel
theorem dX5_steer_74 : decode cX5_steer 74 = .ok (.if_icmp .ge 17, 3) := by decide +kernel
theorem dX5_steer_77 : decode cX5_steer 77 = .ok (.aload_n 0, 1) := by decide +kernel
theorem dX5_steer_78 : decode cX5_steer 78 = .ok (.iconst 1, 1) := by decide +kernel
theorem dX5_steer_79 : decode cX5_steer 79 = .ok (.aload_n 0, 1) := by decide +kernel
theorem dX5_steer_80 : decode cX5_steer 80 = .ok (.getfield 55, 3) := by decide +kernel
theorem dX5_steer_83 : decode cX5_steer 83 = .ok (.iconst 1, 1) := by decide +kernel
theorem dX5_steer_84 : decode cX5_steer 84 = .ok (.isub, 1) := by decide +kernel
theorem dX5_steer_85 : decode cX5_steer 85 = .ok (.invokestatic 86, 3) := by decide +kernel
theorem dX5_steer_88 : decode cX5_steer 88 = .ok (.putfield 55, 3) := by decide +kernel
theorem dX5_steer_91 : decode cX5_steer 91 = .ok (.return_, 1) := by decide +kernel
theorem dX5_handOver_0 : decode cX5_handOver 0 = .ok (.aload_n 1, 1) := by decide +kernel
theorem dX5_handOver_1 : decode cX5_handOver 1 = .ok (.getfield 286, 3) := by decide +kernel
theorem dX5_handOver_4 : decode cX5_handOver 4 = .ok (.aload_n 0, 1) := by decide +kernel
theorem dX5_handOver_5 : decode cX5_handOver 5 = .ok (.getfield 36, 3) := by decide +kernel
theorem dX5_handOver_8 : decode cX5_handOver 8 = .ok (.getfield 208, 3) := by decide +kernel
theorem dX5_handOver_11 : decode cX5_handOver 11 = .ok (.if_icmp .lt 16, 3) := by decide +kernel
theorem dX5_handOver_14 : decode cX5_handOver 14 = .ok (.aload_n 1, 1) := by decide +kernel
theorem dX5_handOver_15 : decode cX5_handOver 15 = .ok (.getfield 235, 3) := by decide +kernel
theorem dX5_handOver_18 : decode cX5_handOver 18 = .ok (.iload_n 2, 1) := by decide +kernel
theorem dX5_handOver_19 : decode cX5_handOver 19 = .ok (.baload, 1) := by decide +kernel
theorem dX5_handOver_20 : decode cX5_handOver 20 = .ok (.ifCond .ne 7, 3) := by decide +kernel
theorem dX5_handOver_23 : decode cX5_handOver 23 = .ok (.iconst 1, 1) := by decide +kernel
theorem dX5_handOver_24 : decode cX5_handOver 24 = .ok (.goto 4, 3) := by decide +kernel
theorem dX5_handOver_27 : decode cX5_handOver 27 = .ok (.iconst 0, 1) := by decide +kernel
theorem dX5_handOver_28 : decode cX5_handOver 28 = .ok (.istore_n 3, 1) := by decide +kernel
theorem dX5_handOver_29 : decode cX5_handOver 29 = .ok (.iload_n 3, 1) := by decide +kernel
theorem dX5_handOver_30 : decode cX5_handOver 30 = .ok (.ifCond .eq 10, 3) := by decide +kernel
theorem dX5_handOver_33 : decode cX5_handOver 33 = .ok (.aload_n 1, 1) := by decide +kernel
theorem dX5_handOver_34 : decode cX5_handOver 34 = .ok (.getfield 235, 3) := by decide +kernel
theorem dX5_handOver_37 : decode cX5_handOver 37 = .ok (.iload_n 2, 1) := by decide +kernel
theorem dX5_handOver_38 : decode cX5_handOver 38 = .ok (.iconst 1, 1) := by decide +kernel
theorem dX5_handOver_39 : decode cX5_handOver 39 = .ok (.bastore, 1) := by decide +kernel
theorem dX5_handOver_40 : decode cX5_handOver 40 = .ok (.iload_n 3, 1) := by decide +kernel
theorem dX5_handOver_41 : decode cX5_handOver 41 = .ok (.ireturn, 1) := by decide +kernel
theorem dJ9_abs_0f7a4_0 : decode cJ9_abs_0f7a4 0 = .ok (.iload_n 0, 1) := by decide +kernel
theorem dJ9_abs_0f7a4_1 : decode cJ9_abs_0f7a4 1 = .ok (.ifCond .ge 8, 3) := by decide +kernel
theorem dJ9_abs_0f7a4_4 : decode cJ9_abs_0f7a4 4 = .ok (.iload_n 0, 1) := by decide +kernel
theorem dJ9_abs_0f7a4_5 : decode cJ9_abs_0f7a4 5 = .ok (.ineg, 1) := by decide +kernel
theorem dJ9_abs_0f7a4_6 : decode cJ9_abs_0f7a4 6 = .ok (.goto 4, 3) := by decide +kernel
theorem dJ9_abs_0f7a4_9 : decode cJ9_abs_0f7a4 9 = .ok (.iload_n 0, 1) := by decide +kernel
theorem dJ9_abs_0f7a4_10 : decode cJ9_abs_0f7a4 10 = .ok (.ireturn, 1) := by decide +kernel
theorem dJ9_max_7cf53_0 : decode cJ9_max_7cf53 0 = .ok (.iload_n 0, 1) := by decide +kernel
theorem dJ9_max_7cf53_1 : decode cJ9_max_7cf53 1 = .ok (.iload_n 1, 1) := by decide +kernel
theorem dJ9_max_7cf53_2 : decode cJ9_max_7cf53 2 = .ok (.if_icmp .lt 7, 3) := by decide +kernel
theorem dJ9_max_7cf53_5 : decode cJ9_max_7cf53 5 = .ok (.iload_n 0, 1) := by decide +kernel
theorem dJ9_max_7cf53_6 : decode cJ9_max_7cf53 6 = .ok (.goto 4, 3) := by decide +kernel
theorem dJ9_max_7cf53_9 : decode cJ9_max_7cf53 9 = .ok (.iload_n 1, 1) := by decide +kernel
theorem dJ9_max_7cf53_10 : decode cJ9_max_7cf53 10 = .ok (.ireturn, 1) := by decide +kernel
theorem dJ9_min_7cf53_0 : decode cJ9_min_7cf53 0 = .ok (.iload_n 0, 1) := by decide +kernel
theorem dJ9_min_7cf53_1 : decode cJ9_min_7cf53 1 = .ok (.iload_n 1, 1) := by decide +kernel
theorem dJ9_min_7cf53_2 : decode cJ9_min_7cf53 2 = .ok (.if_icmp .gt 7, 3) := by decide +kernel
theorem dJ9_min_7cf53_5 : decode cJ9_min_7cf53 5 = .ok (.iload_n 0, 1) := by decide +kernel
theorem dJ9_min_7cf53_6 : decode cJ9_min_7cf53 6 = .ok (.goto 4, 3) := by decide +kernel
theorem dJ9_min_7cf53_9 : decode cJ9_min_7cf53 9 = .ok (.iload_n 1, 1) := by decide +kernel
theorem dJ9_min_7cf53_10 : decode cJ9_min_7cf53 10 = .ok (.ireturn, 1) := by decide +kernel
theorem dJ7_fill_53178_0 : decode cJ7_fill_53178 0 = .ok (.iconst 0, 1) := by decide +kernel
theorem dJ7_fill_53178_1 : decode cJ7_fill_53178 1 = .ok (.istore_n 2, 1) := by decide +kernel
theorem dJ7_fill_53178_2 : decode cJ7_fill_53178 2 = .ok (.aload_n 0, 1) := by decide +kernel
theorem dJ7_fill_53178_3 : decode cJ7_fill_53178 3 = .ok (.arraylength, 1) := by decide +kernel
theorem dJ7_fill_53178_4 : decode cJ7_fill_53178 4 = .ok (.istore_n 3, 1) := by decide +kernel
theorem dJ7_fill_53178_5 : decode cJ7_fill_53178 5 = .ok (.iload_n 2, 1) := by decide +kernel
theorem dJ7_fill_53178_6 : decode cJ7_fill_53178 6 = .ok (.iload_n 3, 1) := by decide +kernel
theorem dJ7_fill_53178_7 : decode cJ7_fill_53178 7 = .ok (.if_icmp .ge 13, 3) := by decide +kernel
theorem dJ7_fill_53178_10 : decode cJ7_fill_53178 10 = .ok (.aload_n 0, 1) := by decide +kernel
theorem dJ7_fill_53178_11 : decode cJ7_fill_53178 11 = .ok (.iload_n 2, 1) := by decide +kernel
theorem dJ7_fill_53178_12 : decode cJ7_fill_53178 12 = .ok (.iload_n 1, 1) := by decide +kernel
theorem dJ7_fill_53178_13 : decode cJ7_fill_53178 13 = .ok (.iastore, 1) := by decide +kernel
theorem dJ7_fill_53178_14 : decode cJ7_fill_53178 14 = .ok (.iinc 2 1, 3) := by decide +kernel
theorem dJ7_fill_53178_17 : decode cJ7_fill_53178 17 = .ok (.goto (-12), 3) := by decide +kernel
theorem dJ7_fill_53178_20 : decode cJ7_fill_53178 20 = .ok (.return_, 1) := by decide +kernel
theorem dJ7_copyOf_59c91_0 : decode cJ7_copyOf_59c91 0 = .ok (.iload_n 1, 1) := by decide +kernel
theorem dJ7_copyOf_59c91_1 : decode cJ7_copyOf_59c91 1 = .ok (.aload_n 0, 1) := by decide +kernel
theorem dJ7_copyOf_59c91_2 : decode cJ7_copyOf_59c91 2 = .ok (.arraylength, 1) := by decide +kernel
theorem dJ7_copyOf_59c91_3 : decode cJ7_copyOf_59c91 3 = .ok (.if_icmp .ne 11, 3) := by decide +kernel
theorem dJ7_copyOf_59c91_6 : decode cJ7_copyOf_59c91 6 = .ok (.aload_n 0, 1) := by decide +kernel
theorem dJ7_copyOf_59c91_7 : decode cJ7_copyOf_59c91 7 = .ok (.invokevirtual 316, 3) := by decide +kernel
theorem dJ7_copyOf_59c91_10 : decode cJ7_copyOf_59c91 10 = .ok (.checkcast 317, 3) := by decide +kernel
theorem dJ7_copyOf_59c91_13 : decode cJ7_copyOf_59c91 13 = .ok (.areturn, 1) := by decide +kernel
theorem dJ7_copyOf_59c91_14 : decode cJ7_copyOf_59c91 14 = .ok (.iload_n 1, 1) := by decide +kernel
theorem dJ7_copyOf_59c91_15 : decode cJ7_copyOf_59c91 15 = .ok (.newarray .int, 2) := by decide +kernel
theorem dJ7_copyOf_59c91_17 : decode cJ7_copyOf_59c91 17 = .ok (.astore_n 2, 1) := by decide +kernel
theorem dJ7_copyOf_59c91_18 : decode cJ7_copyOf_59c91 18 = .ok (.aload_n 0, 1) := by decide +kernel
theorem dJ7_copyOf_59c91_19 : decode cJ7_copyOf_59c91 19 = .ok (.iconst 0, 1) := by decide +kernel
theorem dJ7_copyOf_59c91_20 : decode cJ7_copyOf_59c91 20 = .ok (.aload_n 2, 1) := by decide +kernel
theorem dJ7_copyOf_59c91_21 : decode cJ7_copyOf_59c91 21 = .ok (.iconst 0, 1) := by decide +kernel
theorem dJ7_copyOf_59c91_22 : decode cJ7_copyOf_59c91 22 = .ok (.aload_n 0, 1) := by decide +kernel
theorem dJ7_copyOf_59c91_23 : decode cJ7_copyOf_59c91 23 = .ok (.arraylength, 1) := by decide +kernel
theorem dJ7_copyOf_59c91_24 : decode cJ7_copyOf_59c91 24 = .ok (.iload_n 1, 1) := by decide +kernel
theorem dJ7_copyOf_59c91_25 : decode cJ7_copyOf_59c91 25 = .ok (.invokestatic 304, 3) := by decide +kernel
theorem dJ7_copyOf_59c91_28 : decode cJ7_copyOf_59c91 28 = .ok (.invokestatic 150, 3) := by decide +kernel
theorem dJ7_copyOf_59c91_31 : decode cJ7_copyOf_59c91 31 = .ok (.aload_n 2, 1) := by decide +kernel
theorem dJ7_copyOf_59c91_32 : decode cJ7_copyOf_59c91 32 = .ok (.areturn, 1) := by decide +kernel
theorem dL_below_0 : decode cL_below 0 = .ok (.iload_n 0, 1) := by decide +kernel
theorem dL_below_1 : decode cL_below 1 = .ok (.ldc 7, 2) := by decide +kernel
theorem dL_below_3 : decode cL_below 3 = .ok (.iand, 1) := by decide +kernel
theorem dL_below_4 : decode cL_below 4 = .ok (.iload_n 1, 1) := by decide +kernel
theorem dL_below_5 : decode cL_below 5 = .ok (.irem, 1) := by decide +kernel
theorem dL_below_6 : decode cL_below 6 = .ok (.ireturn, 1) := by decide +kernel
theorem dL_cell_0 : decode cL_cell 0 = .ok (.iload_n 1, 1) := by decide +kernel
theorem dL_cell_1 : decode cL_cell 1 = .ok (.aload_n 0, 1) := by decide +kernel
theorem dL_cell_2 : decode cL_cell 2 = .ok (.arraylength, 1) := by decide +kernel
theorem dL_cell_3 : decode cL_cell 3 = .ok (.if_icmp .ge 9, 3) := by decide +kernel
theorem dL_cell_6 : decode cL_cell 6 = .ok (.aload_n 0, 1) := by decide +kernel
theorem dL_cell_7 : decode cL_cell 7 = .ok (.iload_n 1, 1) := by decide +kernel
theorem dL_cell_8 : decode cL_cell 8 = .ok (.iaload, 1) := by decide +kernel
theorem dL_cell_9 : decode cL_cell 9 = .ok (.goto 9, 3) := by decide +kernel
theorem dL_cell_12 : decode cL_cell 12 = .ok (.ldc 8, 2) := by decide +kernel
theorem dL_cell_14 : decode cL_cell 14 = .ok (.iload_n 1, 1) := by decide +kernel
theorem dL_cell_15 : decode cL_cell 15 = .ok (.iconst 3, 1) := by decide +kernel
theorem dL_cell_16 : decode cL_cell 16 = .ok (.iadd, 1) := by decide +kernel
theorem dL_cell_17 : decode cL_cell 17 = .ok (.imul, 1) := by decide +kernel
theorem dL_cell_18 : decode cL_cell 18 = .ok (.ireturn, 1) := by decide +kernel
set_option maxRecDepth 20000 in
theorem ggL_paint_L_below : GoodIn wsL_paint wsL_below := goodIn_r _ [5, 6] (by decide +kernel) (by decide +kernel)
set_option maxRecDepth 20000 in
theorem gL_paint_L_below : GoodIn wsL_paint (va_wsS RL 9 yL_below wsL_below) := goodIn_app (goodIn_of _ (by decide +kernel)) ggL_paint_L_below
set_option maxRecDepth 20000 in
theorem ggL_paint_X5_box : GoodIn wsL_paint wsX5_box := goodIn_ca (goodIn_r _ [11, 12, 13, 14, 15, 16, 17, 18, 19, 20, 21, 22, 23, 10, 24, 54, 55, 56, 57, 58, 59, 60, 61, 62, 63, 64, 65, 66, 67] (by decide +kernel) (by decide +kernel)) (goodIn_sub (fun _ h => List.mem_cons_of_mem _ (List.mem_append_right _ h)) (by decide +kernel))
set_option maxRecDepth 20000 in
theorem gL_paint_X5_box : GoodIn wsL_paint (wsV RL 15 RX5 yX5_box wsX5_box) := goodIn_app (goodIn_of _ (by decide +kernel)) ggL_paint_X5_box
set_option maxRecDepth 20000 in
theorem ggL_paint_X5_ramp : GoodIn wsL_paint wsX5_ramp := goodIn_ca (goodIn_r _ [28, 12, 13, 21, 22, 23, 10, 24, 29, 30, 31, 54, 55, 56, 57, 58, 59, 60, 61, 62, 63, 64, 65, 66, 67] (by decide +kernel) (by decide +kernel)) (goodIn_sub (fun _ h => List.mem_cons_of_mem _ (List.mem_append_right _ h)) (by decide +kernel))
set_option maxRecDepth 20000 in
theorem gL_paint_X5_ramp : GoodIn wsL_paint (wsV RL 21 RX5 yX5_ramp wsX5_ramp) := goodIn_app (goodIn_of _ (by decide +kernel)) ggL_paint_X5_ramp
set_option maxRecDepth 20000 in
theorem ggL_paint_X5_noise : GoodIn wsL_paint wsX5_noise := goodIn_ca (goodIn_r _ [35, 12, 13, 36, 37, 21, 22, 23, 10, 24, 29, 30, 31, 54, 55, 56, 57, 58, 59, 60, 61, 62, 63, 64, 65, 66, 67] (by decide +kernel) (by decide +kernel)) (goodIn_sub (fun _ h => List.mem_cons_of_mem _ (List.mem_append_right _ h)) (by decide +kernel))
set_option maxRecDepth 20000 in
theorem gL_paint_X5_noise : GoodIn wsL_paint (wsV RL 26 RX5 yX5_noise wsX5_noise) := goodIn_app (goodIn_of _ (by decide +kernel)) ggL_paint_X5_noise
set_option maxRecDepth 20000 in
theorem ggL_paint_X5_shift : GoodIn wsL_paint wsX5_shift := goodIn_ca (goodIn_r _ [41, 12, 13, 21, 42, 43, 44, 45, 46, 22, 23, 10, 24, 47, 48, 49, 18, 19, 16, 20, 14, 15, 17, 54, 55, 56, 57, 58, 59, 60, 61, 62, 63, 64, 65, 66, 67] (by decide +kernel) (by decide +kernel)) (goodIn_sub (fun _ h => List.mem_cons_of_mem _ (List.mem_append_right _ h)) (by decide +kernel))
set_option maxRecDepth 20000 in
theorem gL_paint_X5_shift : GoodIn wsL_paint (wsV RL 29 RX5 yX5_shift wsX5_shift) := goodIn_app (goodIn_of _ (by decide +kernel)) ggL_paint_X5_shift
set_option maxRecDepth 20000 in
theorem ggL_paint_X5_fill : GoodIn wsL_paint wsX5_fill := goodIn_ca (goodIn_r _ [53, 12, 13, 21, 22, 23, 10, 24, 54, 55, 56, 57, 58, 59, 60, 61, 62, 63, 64, 65, 66, 67] (by decide +kernel) (by decide +kernel)) (goodIn_sub (fun _ h => List.mem_cons_of_mem _ (List.mem_append_right _ h)) (by decide +kernel))
set_option maxRecDepth 20000 in
theorem gL_paint_X5_fill : GoodIn wsL_paint (wsV RL 32 RX5 yX5_fill wsX5_fill) := goodIn_app (goodIn_of _ (by decide +kernel)) ggL_paint_X5_fill
theorem dL_paint_0 : decode cL_paint 0 = .ok (.iload_n 1, 1) := by decide +kernel
theorem dL_paint_1 : decode cL_paint 1 = .ok (.iconst 5, 1) := by decide +kernel
theorem dL_paint_2 : decode cL_paint 2 = .ok (.invokestatic 9, 3) := by decide +kernel
theorem dL_paint_5 : decode cL_paint 5 = .ok (.tableswitch 176 0 3 #[31, 88, 128, 150], 31) := by decide +kernel
theorem dL_paint_36 : decode cL_paint 36 = .ok (.aload_n 0, 1) := by decide +kernel
theorem dL_paint_37 : decode cL_paint 37 = .ok (.iload_n 1, 1) := by decide +kernel
theorem dL_paint_38 : decode cL_paint 38 = .ok (.iconst 3, 1) := by decide +kernel
theorem dL_paint_39 : decode cL_paint 39 = .ok (.ishr, 1) := by decide +kernel
theorem dL_paint_40 : decode cL_paint 40 = .ok (.bipush 33, 2) := by decide +kernel
theorem dL_paint_42 : decode cL_paint 42 = .ok (.invokestatic 9, 3) := by decide +kernel
theorem dL_paint_45 : decode cL_paint 45 = .ok (.iconst 4, 1) := by decide +kernel
theorem dL_paint_46 : decode cL_paint 46 = .ok (.isub, 1) := by decide +kernel
theorem dL_paint_47 : decode cL_paint 47 = .ok (.iload_n 2, 1) := by decide +kernel
theorem dL_paint_48 : decode cL_paint 48 = .ok (.bipush 25, 2) := by decide +kernel
theorem dL_paint_50 : decode cL_paint 50 = .ok (.invokestatic 9, 3) := by decide +kernel
theorem dL_paint_53 : decode cL_paint 53 = .ok (.iconst 4, 1) := by decide +kernel
theorem dL_paint_54 : decode cL_paint 54 = .ok (.isub, 1) := by decide +kernel
theorem dL_paint_55 : decode cL_paint 55 = .ok (.iconst 4, 1) := by decide +kernel
theorem dL_paint_56 : decode cL_paint 56 = .ok (.iload_n 2, 1) := by decide +kernel
theorem dL_paint_57 : decode cL_paint 57 = .ok (.iconst 5, 1) := by decide +kernel
theorem dL_paint_58 : decode cL_paint 58 = .ok (.ishr, 1) := by decide +kernel
theorem dL_paint_59 : decode cL_paint 59 = .ok (.bipush 20, 2) := by decide +kernel
theorem dL_paint_61 : decode cL_paint 61 = .ok (.invokestatic 9, 3) := by decide +kernel
theorem dL_paint_64 : decode cL_paint 64 = .ok (.iadd, 1) := by decide +kernel
theorem dL_paint_65 : decode cL_paint 65 = .ok (.iconst 4, 1) := by decide +kernel
theorem dL_paint_66 : decode cL_paint 66 = .ok (.iload_n 1, 1) := by decide +kernel
theorem dL_paint_67 : decode cL_paint 67 = .ok (.bipush 8, 2) := by decide +kernel
theorem dL_paint_69 : decode cL_paint 69 = .ok (.ishr, 1) := by decide +kernel
theorem dL_paint_70 : decode cL_paint 70 = .ok (.bipush 16, 2) := by decide +kernel
theorem dL_paint_72 : decode cL_paint 72 = .ok (.invokestatic 9, 3) := by decide +kernel
theorem dL_paint_75 : decode cL_paint 75 = .ok (.iadd, 1) := by decide +kernel
theorem dL_paint_76 : decode cL_paint 76 = .ok (.iload_n 2, 1) := by decide +kernel
theorem dL_paint_77 : decode cL_paint 77 = .ok (.bipush 9, 2) := by decide +kernel
theorem dL_paint_79 : decode cL_paint 79 = .ok (.ishr, 1) := by decide +kernel
theorem dL_paint_80 : decode cL_paint 80 = .ok (.sipush 256, 3) := by decide +kernel
theorem dL_paint_83 : decode cL_paint 83 = .ok (.invokestatic 9, 3) := by decide +kernel
theorem dL_paint_86 : decode cL_paint 86 = .ok (.invokevirtual 15, 3) := by decide +kernel
theorem dL_paint_89 : decode cL_paint 89 = .ok (.pop, 1) := by decide +kernel
theorem dL_paint_90 : decode cL_paint 90 = .ok (.goto 105, 3) := by decide +kernel
theorem dL_paint_93 : decode cL_paint 93 = .ok (.aload_n 0, 1) := by decide +kernel
theorem dL_paint_94 : decode cL_paint 94 = .ok (.iload_n 1, 1) := by decide +kernel
theorem dL_paint_95 : decode cL_paint 95 = .ok (.iconst 3, 1) := by decide +kernel
theorem dL_paint_96 : decode cL_paint 96 = .ok (.ishr, 1) := by decide +kernel
theorem dL_paint_97 : decode cL_paint 97 = .ok (.bipush 80, 2) := by decide +kernel
theorem dL_paint_99 : decode cL_paint 99 = .ok (.invokestatic 9, 3) := by decide +kernel
theorem dL_paint_102 : decode cL_paint 102 = .ok (.bipush 40, 2) := by decide +kernel
theorem dL_paint_104 : decode cL_paint 104 = .ok (.isub, 1) := by decide +kernel
theorem dL_paint_105 : decode cL_paint 105 = .ok (.iload_n 2, 1) := by decide +kernel
theorem dL_paint_106 : decode cL_paint 106 = .ok (.bipush 41, 2) := by decide +kernel
theorem dL_paint_108 : decode cL_paint 108 = .ok (.invokestatic 9, 3) := by decide +kernel
theorem dL_paint_111 : decode cL_paint 111 = .ok (.bipush 20, 2) := by decide +kernel
theorem dL_paint_113 : decode cL_paint 113 = .ok (.isub, 1) := by decide +kernel
theorem dL_paint_114 : decode cL_paint 114 = .ok (.iload_n 2, 1) := by decide +kernel
theorem dL_paint_115 : decode cL_paint 115 = .ok (.bipush 6, 2) := by decide +kernel
theorem dL_paint_117 : decode cL_paint 117 = .ok (.ishr, 1) := by decide +kernel
theorem dL_paint_118 : decode cL_paint 118 = .ok (.bipush 41, 2) := by decide +kernel
theorem dL_paint_120 : decode cL_paint 120 = .ok (.invokestatic 9, 3) := by decide +kernel
theorem dL_paint_123 : decode cL_paint 123 = .ok (.bipush 20, 2) := by decide +kernel
theorem dL_paint_125 : decode cL_paint 125 = .ok (.isub, 1) := by decide +kernel
theorem dL_paint_126 : decode cL_paint 126 = .ok (.invokevirtual 21, 3) := by decide +kernel
theorem dL_paint_129 : decode cL_paint 129 = .ok (.pop, 1) := by decide +kernel
theorem dL_paint_130 : decode cL_paint 130 = .ok (.goto 65, 3) := by decide +kernel
theorem dL_paint_133 : decode cL_paint 133 = .ok (.aload_n 0, 1) := by decide +kernel
theorem dL_paint_134 : decode cL_paint 134 = .ok (.iload_n 1, 1) := by decide +kernel
theorem dL_paint_135 : decode cL_paint 135 = .ok (.iconst 3, 1) := by decide +kernel
theorem dL_paint_136 : decode cL_paint 136 = .ok (.ishr, 1) := by decide +kernel
theorem dL_paint_137 : decode cL_paint 137 = .ok (.ldc 25, 2) := by decide +kernel
theorem dL_paint_139 : decode cL_paint 139 = .ok (.invokestatic 9, 3) := by decide +kernel
theorem dL_paint_142 : decode cL_paint 142 = .ok (.iload_n 2, 1) := by decide +kernel
theorem dL_paint_143 : decode cL_paint 143 = .ok (.bipush 30, 2) := by decide +kernel
theorem dL_paint_145 : decode cL_paint 145 = .ok (.invokestatic 9, 3) := by decide +kernel
theorem dL_paint_148 : decode cL_paint 148 = .ok (.invokevirtual 26, 3) := by decide +kernel
theorem dL_paint_151 : decode cL_paint 151 = .ok (.pop, 1) := by decide +kernel
theorem dL_paint_152 : decode cL_paint 152 = .ok (.goto 43, 3) := by decide +kernel
theorem dL_paint_155 : decode cL_paint 155 = .ok (.aload_n 0, 1) := by decide +kernel
theorem dL_paint_156 : decode cL_paint 156 = .ok (.iload_n 1, 1) := by decide +kernel
theorem dL_paint_157 : decode cL_paint 157 = .ok (.iconst 3, 1) := by decide +kernel
theorem dL_paint_158 : decode cL_paint 158 = .ok (.ishr, 1) := by decide +kernel
theorem dL_paint_159 : decode cL_paint 159 = .ok (.bipush 7, 2) := by decide +kernel
theorem dL_paint_161 : decode cL_paint 161 = .ok (.invokestatic 9, 3) := by decide +kernel
theorem dL_paint_164 : decode cL_paint 164 = .ok (.iconst 3, 1) := by decide +kernel
theorem dL_paint_165 : decode cL_paint 165 = .ok (.isub, 1) := by decide +kernel
theorem dL_paint_166 : decode cL_paint 166 = .ok (.iload_n 2, 1) := by decide +kernel
theorem dL_paint_167 : decode cL_paint 167 = .ok (.bipush 7, 2) := by decide +kernel
theorem dL_paint_169 : decode cL_paint 169 = .ok (.invokestatic 9, 3) := by decide +kernel
theorem dL_paint_172 : decode cL_paint 172 = .ok (.iconst 3, 1) := by decide +kernel
theorem dL_paint_173 : decode cL_paint 173 = .ok (.isub, 1) := by decide +kernel
theorem dL_paint_174 : decode cL_paint 174 = .ok (.invokevirtual 29, 3) := by decide +kernel
theorem dL_paint_177 : decode cL_paint 177 = .ok (.pop, 1) := by decide +kernel
theorem dL_paint_178 : decode cL_paint 178 = .ok (.goto 17, 3) := by decide +kernel
theorem dL_paint_181 : decode cL_paint 181 = .ok (.aload_n 0, 1) := by decide +kernel
theorem dL_paint_182 : decode cL_paint 182 = .ok (.iload_n 1, 1) := by decide +kernel
theorem dL_paint_183 : decode cL_paint 183 = .ok (.iconst 3, 1) := by decide +kernel
theorem dL_paint_184 : decode cL_paint 184 = .ok (.ishr, 1) := by decide +kernel
theorem dL_paint_185 : decode cL_paint 185 = .ok (.sipush 256, 3) := by decide +kernel
theorem dL_paint_188 : decode cL_paint 188 = .ok (.invokestatic 9, 3) := by decide +kernel
theorem dL_paint_191 : decode cL_paint 191 = .ok (.invokevirtual 32, 3) := by decide +kernel
theorem dL_paint_194 : decode cL_paint 194 = .ok (.pop, 1) := by decide +kernel
theorem dL_paint_195 : decode cL_paint 195 = .ok (.return_, 1) := by decide +kernel
set_option maxRecDepth 20000 in
theorem ggL_isSound_X5_kindOf : GoodIn wsL_isSound wsX5_kindOf := goodIn_ca (goodIn_r _ [9, 10, 11, 12, 13, 8, 14, 15, 16, 17, 18, 19, 20, 21, 22, 23, 24, 25, 80, 81, 82, 83, 84, 85, 86, 87, 88, 89, 90, 91, 92, 93, 94, 95, 96, 97, 98, 99, 100, 101, 102, 103, 104, 105, 106, 107] (by decide +kernel) (by decide +kernel)) (goodIn_sub (fun _ h => List.mem_cons_of_mem _ (List.mem_append_right _ h)) (by decide +kernel))
set_option maxRecDepth 20000 in
theorem gL_isSound_X5_kindOf : GoodIn wsL_isSound (wsV RL 36 RX5 yX5_kindOf wsX5_kindOf) := goodIn_app (goodIn_of _ (by decide +kernel)) ggL_isSound_X5_kindOf
set_option maxRecDepth 20000 in
theorem ggL_isSound_X5_levels : GoodIn wsL_isSound wsX5_levels := goodIn_ca (goodIn_r _ [29, 11, 12, 13, 8, 14, 15, 16, 17, 18, 19, 20, 21, 22, 23, 24, 25, 30, 31, 32, 33, 34, 35, 94, 95, 96, 97, 98, 99, 100, 101, 102, 103, 104, 105, 106, 107, 80, 81, 82, 83, 84, 85, 86, 87, 88, 89, 90, 91, 92, 93] (by decide +kernel) (by decide +kernel)) (goodIn_sub (fun _ h => List.mem_cons_of_mem _ (List.mem_append_right _ h)) (by decide +kernel))
set_option maxRecDepth 20000 in
theorem gL_isSound_X5_levels : GoodIn wsL_isSound (wsV RL 39 RX5 yX5_levels wsX5_levels) := goodIn_app (goodIn_of _ (by decide +kernel)) ggL_isSound_X5_levels
set_option maxRecDepth 20000 in
theorem ggL_isSound_X5_isKey : GoodIn wsL_isSound wsX5_isKey := goodIn_ca (goodIn_r _ [39, 40, 11, 12, 13, 8, 14, 15, 16, 17, 18, 19, 20, 21, 22, 80, 81, 82, 83, 84, 85, 86, 87, 88, 89, 90, 91, 92, 93, 94, 95, 96, 97, 98, 99, 100, 101, 102, 103, 104, 105, 106, 107] (by decide +kernel) (by decide +kernel)) (goodIn_sub (fun _ h => List.mem_cons_of_mem _ (List.mem_append_right _ h)) (by decide +kernel))
set_option maxRecDepth 20000 in
theorem gL_isSound_X5_isKey : GoodIn wsL_isSound (wsV RL 42 RX5 yX5_isKey wsX5_isKey) := goodIn_app (goodIn_of _ (by decide +kernel)) ggL_isSound_X5_isKey
set_option maxRecDepth 20000 in
theorem ggL_isSound_X5_vectorX : GoodIn wsL_isSound wsX5_vectorX := goodIn_ca (goodIn_r _ [44, 45, 11, 12, 13, 8, 14, 15, 16, 17, 18, 19, 20, 21, 22, 23, 24, 25, 80, 81, 82, 83, 84, 85, 86, 87, 88, 89, 90, 91, 92, 93, 94, 95, 96, 97, 98, 99, 100, 101, 102, 103, 104, 105, 106, 107] (by decide +kernel) (by decide +kernel)) (goodIn_sub (fun _ h => List.mem_cons_of_mem _ (List.mem_append_right _ h)) (by decide +kernel))
set_option maxRecDepth 20000 in
theorem gL_isSound_X5_vectorX : GoodIn wsL_isSound (wsV RL 46 RX5 yX5_vectorX wsX5_vectorX) := goodIn_app (goodIn_of _ (by decide +kernel)) ggL_isSound_X5_vectorX
set_option maxRecDepth 20000 in
theorem ggL_isSound_X5_vectorY : GoodIn wsL_isSound wsX5_vectorY := goodIn_ca (goodIn_r _ [49, 50, 11, 12, 13, 8, 14, 15, 16, 17, 18, 19, 20, 21, 22, 23, 24, 25, 80, 81, 82, 83, 84, 85, 86, 87, 88, 89, 90, 91, 92, 93, 94, 95, 96, 97, 98, 99, 100, 101, 102, 103, 104, 105, 106, 107] (by decide +kernel) (by decide +kernel)) (goodIn_sub (fun _ h => List.mem_cons_of_mem _ (List.mem_append_right _ h)) (by decide +kernel))
set_option maxRecDepth 20000 in
theorem gL_isSound_X5_vectorY : GoodIn wsL_isSound (wsV RL 49 RX5 yX5_vectorY wsX5_vectorY) := goodIn_app (goodIn_of _ (by decide +kernel)) ggL_isSound_X5_vectorY
set_option maxRecDepth 20000 in
theorem ggL_isSound_X5_bits : GoodIn wsL_isSound wsX5_bits := goodIn_ca (goodIn_r _ [54, 55, 11, 12, 13, 8, 14, 15, 16, 17, 18, 19, 20, 21, 22, 23, 24, 25, 80, 81, 82, 83, 84, 85, 86, 87, 88, 89, 90, 91, 92, 93, 94, 95, 96, 97, 98, 99, 100, 101, 102, 103, 104, 105, 106, 107] (by decide +kernel) (by decide +kernel)) (goodIn_sub (fun _ h => List.mem_cons_of_mem _ (List.mem_append_right _ h)) (by decide +kernel))
set_option maxRecDepth 20000 in
theorem gL_isSound_X5_bits : GoodIn wsL_isSound (wsV RL 57 RX5 yX5_bits wsX5_bits) := goodIn_app (goodIn_of _ (by decide +kernel)) ggL_isSound_X5_bits
set_option maxRecDepth 20000 in
theorem ggL_isSound_X5_bytes : GoodIn wsL_isSound wsX5_bytes := goodIn_ca (goodIn_r _ [59, 11, 12, 13, 8, 14, 15, 16, 17, 18, 19, 20, 21, 22, 23, 24, 25, 60, 61, 62, 33, 63, 64, 94, 95, 96, 97, 98, 99, 100, 101, 102, 103, 104, 105, 106, 107, 80, 81, 82, 83, 84, 85, 86, 87, 88, 89, 90, 91, 92, 93] (by decide +kernel) (by decide +kernel)) (goodIn_sub (fun _ h => List.mem_cons_of_mem _ (List.mem_append_right _ h)) (by decide +kernel))
set_option maxRecDepth 20000 in
theorem gL_isSound_X5_bytes : GoodIn wsL_isSound (wsV RL 60 RX5 yX5_bytes wsX5_bytes) := goodIn_app (goodIn_of _ (by decide +kernel)) ggL_isSound_X5_bytes
set_option maxRecDepth 20000 in
theorem ggL_isSound_X5_byteAt : GoodIn wsL_isSound wsX5_byteAt := goodIn_ca (goodIn_r _ [68, 69, 11, 12, 13, 8, 14, 15, 16, 17, 18, 19, 20, 21, 22, 23, 24, 25, 70, 71, 72, 33, 73, 74, 61, 62, 63, 64, 60, 80, 81, 82, 83, 84, 85, 86, 87, 88, 89, 90, 91, 92, 93, 94, 95, 96, 97, 98, 99, 100, 101, 102, 103, 104, 105, 106, 107] (by decide +kernel) (by decide +kernel)) (goodIn_sub (fun _ h => List.mem_cons_of_mem _ (List.mem_append_right _ h)) (by decide +kernel))
set_option maxRecDepth 20000 in
theorem gL_isSound_X5_byteAt : GoodIn wsL_isSound (wsV RL 63 RX5 yX5_byteAt wsX5_byteAt) := goodIn_app (goodIn_of _ (by decide +kernel)) ggL_isSound_X5_byteAt
set_option maxRecDepth 20000 in
theorem ggL_isSound_X5_errorOf : GoodIn wsL_isSound wsX5_errorOf := goodIn_ca (goodIn_r _ [78, 79, 11, 12, 13, 8, 14, 15, 16, 17, 18, 19, 20, 21, 22, 80, 81, 82, 83, 84, 85, 86, 87, 88, 89, 90, 91, 92, 93, 94, 95, 96, 97, 98, 99, 100, 101, 102, 103, 104, 105, 106, 107] (by decide +kernel) (by decide +kernel)) (goodIn_sub (fun _ h => List.mem_cons_of_mem _ (List.mem_append_right _ h)) (by decide +kernel))
set_option maxRecDepth 20000 in
theorem gL_isSound_X5_errorOf : GoodIn wsL_isSound (wsV RL 66 RX5 yX5_errorOf wsX5_errorOf) := goodIn_app (goodIn_of _ (by decide +kernel)) ggL_isSound_X5_errorOf
theorem dL_isSound_0 : decode cL_isSound 0 = .ok (.iconst 0, 1) := by decide +kernel
theorem dL_isSound_1 : decode cL_isSound 1 = .ok (.istore_n 2, 1) := by decide +kernel
theorem dL_isSound_2 : decode cL_isSound 2 = .ok (.iconst 0, 1) := by decide +kernel
theorem dL_isSound_3 : decode cL_isSound 3 = .ok (.istore_n 3, 1) := by decide +kernel
theorem dL_isSound_4 : decode cL_isSound 4 = .ok (.iload_n 3, 1) := by decide +kernel
theorem dL_isSound_5 : decode cL_isSound 5 = .ok (.bipush 12, 2) := by decide +kernel
theorem dL_isSound_7 : decode cL_isSound 7 = .ok (.if_icmp .ge 160, 3) := by decide +kernel
theorem dL_isSound_10 : decode cL_isSound 10 = .ok (.aload_n 0, 1) := by decide +kernel
theorem dL_isSound_11 : decode cL_isSound 11 = .ok (.iload_n 1, 1) := by decide +kernel
theorem dL_isSound_12 : decode cL_isSound 12 = .ok (.iload_n 3, 1) := by decide +kernel
theorem dL_isSound_13 : decode cL_isSound 13 = .ok (.invokevirtual 36, 3) := by decide +kernel
theorem dL_isSound_16 : decode cL_isSound 16 = .ok (.istore 4, 2) := by decide +kernel
theorem dL_isSound_18 : decode cL_isSound 18 = .ok (.iload 4, 2) := by decide +kernel
theorem dL_isSound_20 : decode cL_isSound 20 = .ok (.iconst 2, 1) := by decide +kernel
theorem dL_isSound_21 : decode cL_isSound 21 = .ok (.if_icmp .ge 7, 3) := by decide +kernel
theorem dL_isSound_24 : decode cL_isSound 24 = .ok (.iconst 1, 1) := by decide +kernel
theorem dL_isSound_25 : decode cL_isSound 25 = .ok (.goto 4, 3) := by decide +kernel
theorem dL_isSound_28 : decode cL_isSound 28 = .ok (.iconst 0, 1) := by decide +kernel
theorem dL_isSound_29 : decode cL_isSound 29 = .ok (.istore 5, 2) := by decide +kernel
theorem dL_isSound_31 : decode cL_isSound 31 = .ok (.iload 4, 2) := by decide +kernel
theorem dL_isSound_33 : decode cL_isSound 33 = .ok (.ifCond .ne 12, 3) := by decide +kernel
theorem dL_isSound_36 : decode cL_isSound 36 = .ok (.aload_n 0, 1) := by decide +kernel
theorem dL_isSound_37 : decode cL_isSound 37 = .ok (.iload_n 1, 1) := by decide +kernel
theorem dL_isSound_38 : decode cL_isSound 38 = .ok (.iload_n 3, 1) := by decide +kernel
theorem dL_isSound_39 : decode cL_isSound 39 = .ok (.invokevirtual 39, 3) := by decide +kernel
theorem dL_isSound_42 : decode cL_isSound 42 = .ok (.ifCond .ne 79, 3) := by decide +kernel
theorem dL_isSound_45 : decode cL_isSound 45 = .ok (.iload_n 3, 1) := by decide +kernel
theorem dL_isSound_46 : decode cL_isSound 46 = .ok (.iconst 4, 1) := by decide +kernel
theorem dL_isSound_47 : decode cL_isSound 47 = .ok (.irem, 1) := by decide +kernel
theorem dL_isSound_48 : decode cL_isSound 48 = .ok (.ifCond .ne 9, 3) := by decide +kernel
theorem dL_isSound_51 : decode cL_isSound 51 = .ok (.iload 4, 2) := by decide +kernel
theorem dL_isSound_53 : decode cL_isSound 53 = .ok (.iconst 2, 1) := by decide +kernel
theorem dL_isSound_54 : decode cL_isSound 54 = .ok (.if_icmp .gt 67, 3) := by decide +kernel
theorem dL_isSound_57 : decode cL_isSound 57 = .ok (.aload_n 0, 1) := by decide +kernel
theorem dL_isSound_58 : decode cL_isSound 58 = .ok (.iload_n 1, 1) := by decide +kernel
theorem dL_isSound_59 : decode cL_isSound 59 = .ok (.invokevirtual 42, 3) := by decide +kernel
theorem dL_isSound_62 : decode cL_isSound 62 = .ok (.ifCond .eq 8, 3) := by decide +kernel
theorem dL_isSound_65 : decode cL_isSound 65 = .ok (.iload 5, 2) := by decide +kernel
theorem dL_isSound_67 : decode cL_isSound 67 = .ok (.ifCond .ne 54, 3) := by decide +kernel
theorem dL_isSound_70 : decode cL_isSound 70 = .ok (.iload 5, 2) := by decide +kernel
theorem dL_isSound_72 : decode cL_isSound 72 = .ok (.ifCond .ne 21, 3) := by decide +kernel
theorem dL_isSound_75 : decode cL_isSound 75 = .ok (.aload_n 0, 1) := by decide +kernel
theorem dL_isSound_76 : decode cL_isSound 76 = .ok (.iload_n 1, 1) := by decide +kernel
theorem dL_isSound_77 : decode cL_isSound 77 = .ok (.iload_n 3, 1) := by decide +kernel
theorem dL_isSound_78 : decode cL_isSound 78 = .ok (.invokevirtual 46, 3) := by decide +kernel
theorem dL_isSound_81 : decode cL_isSound 81 = .ok (.ifCond .ne 40, 3) := by decide +kernel
theorem dL_isSound_84 : decode cL_isSound 84 = .ok (.aload_n 0, 1) := by decide +kernel
theorem dL_isSound_85 : decode cL_isSound 85 = .ok (.iload_n 1, 1) := by decide +kernel
theorem dL_isSound_86 : decode cL_isSound 86 = .ok (.iload_n 3, 1) := by decide +kernel
theorem dL_isSound_87 : decode cL_isSound 87 = .ok (.invokevirtual 49, 3) := by decide +kernel
theorem dL_isSound_90 : decode cL_isSound 90 = .ok (.ifCond .ne 31, 3) := by decide +kernel
theorem dL_isSound_93 : decode cL_isSound 93 = .ok (.aload_n 0, 1) := by decide +kernel
theorem dL_isSound_94 : decode cL_isSound 94 = .ok (.iload_n 1, 1) := by decide +kernel
theorem dL_isSound_95 : decode cL_isSound 95 = .ok (.iload_n 3, 1) := by decide +kernel
theorem dL_isSound_96 : decode cL_isSound 96 = .ok (.invokevirtual 46, 3) := by decide +kernel
theorem dL_isSound_99 : decode cL_isSound 99 = .ok (.invokestatic 52, 3) := by decide +kernel
theorem dL_isSound_102 : decode cL_isSound 102 = .ok (.bipush 6, 2) := by decide +kernel
theorem dL_isSound_104 : decode cL_isSound 104 = .ok (.if_icmp .gt 17, 3) := by decide +kernel
theorem dL_isSound_107 : decode cL_isSound 107 = .ok (.aload_n 0, 1) := by decide +kernel
theorem dL_isSound_108 : decode cL_isSound 108 = .ok (.iload_n 1, 1) := by decide +kernel
theorem dL_isSound_109 : decode cL_isSound 109 = .ok (.iload_n 3, 1) := by decide +kernel
theorem dL_isSound_110 : decode cL_isSound 110 = .ok (.invokevirtual 49, 3) := by decide +kernel
theorem dL_isSound_113 : decode cL_isSound 113 = .ok (.invokestatic 52, 3) := by decide +kernel
theorem dL_isSound_116 : decode cL_isSound 116 = .ok (.bipush 6, 2) := by decide +kernel
theorem dL_isSound_118 : decode cL_isSound 118 = .ok (.if_icmp .le 5, 3) := by decide +kernel
theorem dL_isSound_121 : decode cL_isSound 121 = .ok (.iconst 0, 1) := by decide +kernel
theorem dL_isSound_122 : decode cL_isSound 122 = .ok (.ireturn, 1) := by decide +kernel
theorem dL_isSound_123 : decode cL_isSound 123 = .ok (.iload_n 2, 1) := by decide +kernel
theorem dL_isSound_124 : decode cL_isSound 124 = .ok (.iload 4, 2) := by decide +kernel
theorem dL_isSound_126 : decode cL_isSound 126 = .ok (.ifCond .ne 32, 3) := by decide +kernel
theorem dL_isSound_129 : decode cL_isSound 129 = .ok (.iload_n 3, 1) := by decide +kernel
theorem dL_isSound_130 : decode cL_isSound 130 = .ok (.iconst 4, 1) := by decide +kernel
theorem dL_isSound_131 : decode cL_isSound 131 = .ok (.irem, 1) := by decide +kernel
theorem dL_isSound_132 : decode cL_isSound 132 = .ok (.ifCond .ne 26, 3) := by decide +kernel
theorem dL_isSound_135 : decode cL_isSound 135 = .ok (.aload_n 0, 1) := by decide +kernel
theorem dL_isSound_136 : decode cL_isSound 136 = .ok (.iload_n 1, 1) := by decide +kernel
theorem dL_isSound_137 : decode cL_isSound 137 = .ok (.iload_n 3, 1) := by decide +kernel
theorem dL_isSound_138 : decode cL_isSound 138 = .ok (.invokevirtual 46, 3) := by decide +kernel
theorem dL_isSound_141 : decode cL_isSound 141 = .ok (.ifCond .ne 12, 3) := by decide +kernel
theorem dL_isSound_144 : decode cL_isSound 144 = .ok (.aload_n 0, 1) := by decide +kernel
theorem dL_isSound_145 : decode cL_isSound 145 = .ok (.iload_n 1, 1) := by decide +kernel
theorem dL_isSound_146 : decode cL_isSound 146 = .ok (.iload_n 3, 1) := by decide +kernel
theorem dL_isSound_147 : decode cL_isSound 147 = .ok (.invokevirtual 49, 3) := by decide +kernel
theorem dL_isSound_150 : decode cL_isSound 150 = .ok (.ifCond .eq 8, 3) := by decide +kernel
theorem dL_isSound_153 : decode cL_isSound 153 = .ok (.bipush 100, 2) := by decide +kernel
theorem dL_isSound_155 : decode cL_isSound 155 = .ok (.goto 4, 3) := by decide +kernel
theorem dL_isSound_158 : decode cL_isSound 158 = .ok (.iconst 1, 1) := by decide +kernel
theorem dL_isSound_159 : decode cL_isSound 159 = .ok (.iadd, 1) := by decide +kernel
theorem dL_isSound_160 : decode cL_isSound 160 = .ok (.istore_n 2, 1) := by decide +kernel
theorem dL_isSound_161 : decode cL_isSound 161 = .ok (.iinc 3 1, 3) := by decide +kernel
theorem dL_isSound_164 : decode cL_isSound 164 = .ok (.goto (-160), 3) := by decide +kernel
theorem dL_isSound_167 : decode cL_isSound 167 = .ok (.iconst 0, 1) := by decide +kernel
theorem dL_isSound_168 : decode cL_isSound 168 = .ok (.istore_n 3, 1) := by decide +kernel
theorem dL_isSound_169 : decode cL_isSound 169 = .ok (.iconst 0, 1) := by decide +kernel
theorem dL_isSound_170 : decode cL_isSound 170 = .ok (.istore 4, 2) := by decide +kernel
theorem dL_isSound_172 : decode cL_isSound 172 = .ok (.iload 4, 2) := by decide +kernel
theorem dL_isSound_174 : decode cL_isSound 174 = .ok (.iconst 3, 1) := by decide +kernel
theorem dL_isSound_175 : decode cL_isSound 175 = .ok (.if_icmp .ge 78, 3) := by decide +kernel
theorem dL_isSound_178 : decode cL_isSound 178 = .ok (.aload_n 0, 1) := by decide +kernel
theorem dL_isSound_179 : decode cL_isSound 179 = .ok (.iload_n 1, 1) := by decide +kernel
theorem dL_isSound_180 : decode cL_isSound 180 = .ok (.iload 4, 2) := by decide +kernel
theorem dL_isSound_182 : decode cL_isSound 182 = .ok (.invokevirtual 57, 3) := by decide +kernel
theorem dL_isSound_185 : decode cL_isSound 185 = .ok (.bipush 8, 2) := by decide +kernel
theorem dL_isSound_187 : decode cL_isSound 187 = .ok (.aload_n 0, 1) := by decide +kernel
theorem dL_isSound_188 : decode cL_isSound 188 = .ok (.iload_n 1, 1) := by decide +kernel
theorem dL_isSound_189 : decode cL_isSound 189 = .ok (.iload 4, 2) := by decide +kernel
theorem dL_isSound_191 : decode cL_isSound 191 = .ok (.invokevirtual 60, 3) := by decide +kernel
theorem dL_isSound_194 : decode cL_isSound 194 = .ok (.imul, 1) := by decide +kernel
theorem dL_isSound_195 : decode cL_isSound 195 = .ok (.if_icmp .gt 40, 3) := by decide +kernel
theorem dL_isSound_198 : decode cL_isSound 198 = .ok (.aload_n 0, 1) := by decide +kernel
theorem dL_isSound_199 : decode cL_isSound 199 = .ok (.iload_n 1, 1) := by decide +kernel
theorem dL_isSound_200 : decode cL_isSound 200 = .ok (.iload 4, 2) := by decide +kernel
theorem dL_isSound_202 : decode cL_isSound 202 = .ok (.invokevirtual 57, 3) := by decide +kernel
theorem dL_isSound_205 : decode cL_isSound 205 = .ok (.bipush 8, 2) := by decide +kernel
theorem dL_isSound_207 : decode cL_isSound 207 = .ok (.aload_n 0, 1) := by decide +kernel
theorem dL_isSound_208 : decode cL_isSound 208 = .ok (.iload_n 1, 1) := by decide +kernel
theorem dL_isSound_209 : decode cL_isSound 209 = .ok (.iload 4, 2) := by decide +kernel
theorem dL_isSound_211 : decode cL_isSound 211 = .ok (.invokevirtual 60, 3) := by decide +kernel
theorem dL_isSound_214 : decode cL_isSound 214 = .ok (.imul, 1) := by decide +kernel
theorem dL_isSound_215 : decode cL_isSound 215 = .ok (.bipush 8, 2) := by decide +kernel
theorem dL_isSound_217 : decode cL_isSound 217 = .ok (.isub, 1) := by decide +kernel
theorem dL_isSound_218 : decode cL_isSound 218 = .ok (.if_icmp .le 17, 3) := by decide +kernel
theorem dL_isSound_221 : decode cL_isSound 221 = .ok (.aload_n 0, 1) := by decide +kernel
theorem dL_isSound_222 : decode cL_isSound 222 = .ok (.iload_n 1, 1) := by decide +kernel
theorem dL_isSound_223 : decode cL_isSound 223 = .ok (.iload 4, 2) := by decide +kernel
theorem dL_isSound_225 : decode cL_isSound 225 = .ok (.iconst 0, 1) := by decide +kernel
theorem dL_isSound_226 : decode cL_isSound 226 = .ok (.invokevirtual 63, 3) := by decide +kernel
theorem dL_isSound_229 : decode cL_isSound 229 = .ok (.iconst 3, 1) := by decide +kernel
theorem dL_isSound_230 : decode cL_isSound 230 = .ok (.ishr, 1) := by decide +kernel
theorem dL_isSound_231 : decode cL_isSound 231 = .ok (.iload_n 1, 1) := by decide +kernel
theorem dL_isSound_232 : decode cL_isSound 232 = .ok (.if_icmp .eq 5, 3) := by decide +kernel
theorem dL_isSound_235 : decode cL_isSound 235 = .ok (.iconst 0, 1) := by decide +kernel
theorem dL_isSound_236 : decode cL_isSound 236 = .ok (.ireturn, 1) := by decide +kernel
theorem dL_isSound_237 : decode cL_isSound 237 = .ok (.iload_n 3, 1) := by decide +kernel
theorem dL_isSound_238 : decode cL_isSound 238 = .ok (.aload_n 0, 1) := by decide +kernel
theorem dL_isSound_239 : decode cL_isSound 239 = .ok (.iload_n 1, 1) := by decide +kernel
theorem dL_isSound_240 : decode cL_isSound 240 = .ok (.iload 4, 2) := by decide +kernel
theorem dL_isSound_242 : decode cL_isSound 242 = .ok (.invokevirtual 60, 3) := by decide +kernel
theorem dL_isSound_245 : decode cL_isSound 245 = .ok (.iadd, 1) := by decide +kernel
theorem dL_isSound_246 : decode cL_isSound 246 = .ok (.istore_n 3, 1) := by decide +kernel
theorem dL_isSound_247 : decode cL_isSound 247 = .ok (.iinc 4 1, 3) := by decide +kernel
theorem dL_isSound_250 : decode cL_isSound 250 = .ok (.goto (-78), 3) := by decide +kernel
theorem dL_isSound_253 : decode cL_isSound 253 = .ok (.iload_n 2, 1) := by decide +kernel
theorem dL_isSound_254 : decode cL_isSound 254 = .ok (.bipush 12, 2) := by decide +kernel
theorem dL_isSound_256 : decode cL_isSound 256 = .ok (.if_icmp .ne 19, 3) := by decide +kernel
theorem dL_isSound_259 : decode cL_isSound 259 = .ok (.iload_n 3, 1) := by decide +kernel
theorem dL_isSound_260 : decode cL_isSound 260 = .ok (.ifCond .le 15, 3) := by decide +kernel
theorem dL_isSound_263 : decode cL_isSound 263 = .ok (.aload_n 0, 1) := by decide +kernel
theorem dL_isSound_264 : decode cL_isSound 264 = .ok (.iload_n 1, 1) := by decide +kernel
theorem dL_isSound_265 : decode cL_isSound 265 = .ok (.invokevirtual 66, 3) := by decide +kernel
theorem dL_isSound_268 : decode cL_isSound 268 = .ok (.ifCond .lt 7, 3) := by decide +kernel
theorem dL_isSound_271 : decode cL_isSound 271 = .ok (.iconst 1, 1) := by decide +kernel
theorem dL_isSound_272 : decode cL_isSound 272 = .ok (.goto 4, 3) := by decide +kernel
theorem dL_isSound_275 : decode cL_isSound 275 = .ok (.iconst 0, 1) := by decide +kernel
theorem dL_isSound_276 : decode cL_isSound 276 = .ok (.ireturn, 1) := by decide +kernel
end
section
set_option maxRecDepth 20000 in
theorem ggL_law_X5_init : GoodIn wsL_law wsX5_init := goodIn_r _ [5, 6, 7, 8, 9, 10, 11, 12, 13, 14, 15, 16, 17, 18, 19, 20, 21, 22, 23, 24, 25, 26, 27, 28, 29, 30, 31, 32, 33, 34, 35, 36, 37, 38, 39, 40, 41, 42, 43, 44, 45, 46, 47, 48, 49, 50, 51, 52, 53, 54, 55, 56, 57, 58, 59, 60, 61, 62, 63, 64, 65, 66, 67, 68, 69, 70, 71, 72, 73, 74, 75, 76, 77, 78, 79, 80, 81, 82, 83, 84, 85, 86, 87, 88, 89, 90, 594, 595, 596, 597, 598, 599, 600, 601, 602, 603, 604, 605, 606, 607, 608, 609, 610, 611, 612, 613, 614, 615, 616, 617, 618, 619, 620, 621, 622, 623, 624, 625, 626, 627, 628, 629, 630, 631, 632, 633, 634, 635, 636, 637] (by decide +kernel) (by decide +kernel)
set_option maxRecDepth 20000 in
theorem gL_law_X5_init : GoodIn wsL_law (wsX5_init) := ggL_law_X5_init
set_option maxRecDepth 20000 in
theorem ggL_law_L_cell : GoodIn wsL_law wsL_cell := goodIn_r _ [94, 95] (by decide +kernel) (by decide +kernel)
set_option maxRecDepth 20000 in
theorem gL_law_L_cell : GoodIn wsL_law (va_wsS RL 70 yL_cell wsL_cell) := goodIn_app (goodIn_of _ (by decide +kernel)) ggL_law_L_cell
set_option maxRecDepth 20000 in
theorem ggL_law_L_below : GoodIn wsL_law wsL_below := goodIn_r _ [98, 99] (by decide +kernel) (by decide +kernel)
set_option maxRecDepth 20000 in
theorem gL_law_L_below : GoodIn wsL_law (va_wsS RL 9 yL_below wsL_below) := goodIn_app (goodIn_of _ (by decide +kernel)) ggL_law_L_below
set_option maxRecDepth 20000 in
theorem ggL_law_L_paint : GoodIn wsL_law wsL_paint := goodIn_ca (goodIn_r _ [102, 103, 96, 97, 93, 98, 99, 104, 105, 106, 2, 107, 108, 109, 110, 111, 112, 113, 114, 115, 116, 10, 117, 118, 119, 120, 121, 122, 123, 124, 125, 126, 127, 128, 129, 130, 131, 132, 133, 134, 135, 136, 25, 137, 138, 139, 140, 141, 142, 143, 144, 145, 146, 147, 594, 595, 596, 597, 598, 599, 600, 601, 602, 603, 604, 605, 606, 607] (by decide +kernel) (by decide +kernel)) (goodIn_sub (fun _ h => List.mem_append_left _ (List.mem_append_left _ (List.mem_append_right _ h))) (by decide +kernel))
set_option maxRecDepth 20000 in
theorem gL_law_L_paint : GoodIn wsL_law (va_wsS RL 74 yL_paint wsL_paint) := goodIn_app (goodIn_of _ (by decide +kernel)) ggL_law_L_paint
set_option maxRecDepth 20000 in
theorem ggL_law_X5_setStep : GoodIn wsL_law wsX5_setStep := goodIn_ca (goodIn_r _ [151, 108, 109, 31, 117, 118, 2, 119, 594, 595, 596, 597, 598, 599, 600, 601, 602, 603, 604, 605, 606, 607] (by decide +kernel) (by decide +kernel)) (goodIn_sub (fun _ h => List.mem_append_left _ (List.mem_append_left _ (List.mem_append_right _ h))) (by decide +kernel))
set_option maxRecDepth 20000 in
theorem gL_law_X5_setStep : GoodIn wsL_law (wsV RL 78 RX5 yX5_setStep wsX5_setStep) := goodIn_app (goodIn_of _ (by decide +kernel)) ggL_law_X5_setStep
set_option maxRecDepth 20000 in
theorem ggL_law_X5_setSmoothing : GoodIn wsL_law wsX5_setSmoothing := goodIn_r _ [155, 34, 594, 595, 596, 597, 598, 599, 600, 601, 602, 603, 604, 605, 606, 607] (by decide +kernel) (by decide +kernel)
set_option maxRecDepth 20000 in
theorem gL_law_X5_setSmoothing : GoodIn wsL_law (wsV RL 81 RX5 yX5_setSmoothing wsX5_setSmoothing) := goodIn_app (goodIn_of _ (by decide +kernel)) ggL_law_X5_setSmoothing
set_option maxRecDepth 20000 in
theorem ggL_law_X5_askKey : GoodIn wsL_law wsX5_askKey := goodIn_r _ [159, 35, 160, 161, 162, 2, 163, 29, 30, 33, 594, 595, 596, 597, 598, 599, 600, 601, 602, 603, 604, 605, 606, 607] (by decide +kernel) (by decide +kernel)
set_option maxRecDepth 20000 in
theorem gL_law_X5_askKey : GoodIn wsL_law (wsV RL 85 RX5 yX5_askKey wsX5_askKey) := goodIn_app (goodIn_of _ (by decide +kernel)) ggL_law_X5_askKey
set_option maxRecDepth 20000 in
theorem ggL_law_X5_setTarget : GoodIn wsL_law wsX5_setTarget := goodIn_ca (goodIn_r _ [167, 108, 109, 32, 117, 118, 2, 119, 594, 595, 596, 597, 598, 599, 600, 601, 602, 603, 604, 605, 606, 607] (by decide +kernel) (by decide +kernel)) (goodIn_sub (fun _ h => List.mem_append_left _ (List.mem_append_left _ (List.mem_append_right _ h))) (by decide +kernel))
set_option maxRecDepth 20000 in
theorem gL_law_X5_setTarget : GoodIn wsL_law (wsV RL 89 RX5 yX5_setTarget wsX5_setTarget) := goodIn_app (goodIn_of _ (by decide +kernel)) ggL_law_X5_setTarget
set_option maxRecDepth 20000 in
theorem ggL_law_X5_step : GoodIn wsL_law wsX5_step := goodIn_r _ [171, 31, 594, 595, 596, 597, 598, 599, 600, 601, 602, 603, 604, 605, 606, 607] (by decide +kernel) (by decide +kernel)
set_option maxRecDepth 20000 in
theorem gL_law_X5_step : GoodIn wsL_law (wsV RL 92 RX5 yX5_step wsX5_step) := goodIn_app (goodIn_of _ (by decide +kernel)) ggL_law_X5_step
end
section
theorem goodIn_c1 {big a : List Cond} {c : Cond} (hc : GoodIn big [c]) (ha : GoodIn big a) : GoodIn big (c :: a) := fun w h => (List.mem_cons.mp h).elim (fun e => hc w (List.mem_cons.mpr (Or.inl e))) (ha w)
set_option maxRecDepth 20000 in
theorem gqb_wsX5_bytesWith_r1 : GoodIn wsL_law wsX5_bytesWith_r1 := goodIn_r _ [108, 109, 20, 28, 117, 118, 2, 119, 176, 177, 178, 179, 180, 181, 29, 182, 183, 184, 185, 16, 186, 187, 188, 189] (by decide +kernel) (by decide +kernel)
set_option maxRecDepth 20000 in
theorem gqb_wsX5_bytesWith_r2 : GoodIn wsL_law wsX5_bytesWith_r2 := goodIn_r _ [34, 190, 191, 10, 192, 193, 194, 195, 12, 196, 197, 198, 41, 199, 50, 142, 143, 114, 115, 112, 116, 110, 111, 113] (by decide +kernel) (by decide +kernel)
set_option maxRecDepth 20000 in
theorem gqb_wsX5_bytesWith_r3 : GoodIn wsL_law wsX5_bytesWith_r3 := goodIn_r _ [160, 161, 162, 163, 35, 30, 33, 200, 201, 202, 15, 203, 204, 42, 205, 206, 207, 208, 209, 210, 211, 212, 213, 46] (by decide +kernel) (by decide +kernel)
set_option maxRecDepth 20000 in
theorem gqb_wsX5_bytesWith_r4 : GoodIn wsL_law wsX5_bytesWith_r4 := goodIn_r _ [214, 43, 44, 45, 215, 216, 217, 218, 219, 220, 221, 222, 223, 224, 225, 226, 227, 228, 229, 230, 231, 232, 233, 27] (by decide +kernel) (by decide +kernel)
set_option maxRecDepth 20000 in
theorem gqb_wsX5_bytesWith_r5 : GoodIn wsL_law wsX5_bytesWith_r5 := goodIn_r _ [234, 77, 235, 236, 237, 238, 239, 240, 78, 241, 242, 243, 244, 245, 246, 247, 248, 249, 250, 251, 252, 253, 254, 255] (by decide +kernel) (by decide +kernel)
set_option maxRecDepth 20000 in
theorem gqb_wsX5_bytesWith_r6 : GoodIn wsL_law wsX5_bytesWith_r6 := goodIn_r _ [256, 257, 258, 259, 260, 261, 262, 263, 264, 265, 266, 267, 268, 269, 270, 271, 53, 272, 273, 274, 275, 52, 276, 70] (by decide +kernel) (by decide +kernel)
set_option maxRecDepth 20000 in
theorem gqb_wsX5_bytesWith_r7 : GoodIn wsL_law wsX5_bytesWith_r7 := goodIn_r _ [71, 72, 277, 278, 279, 280, 281, 282, 283, 284, 125, 126, 285, 286, 287, 288, 289, 290, 291, 292, 51, 293, 294, 295] (by decide +kernel) (by decide +kernel)
set_option maxRecDepth 20000 in
theorem gqb_wsX5_bytesWith_r8 : GoodIn wsL_law wsX5_bytesWith_r8 := goodIn_r _ [296, 297, 298, 299, 300, 301, 302, 303, 304, 305, 306, 307, 308, 309, 310, 311, 312, 313, 314, 315, 316, 317, 318, 319] (by decide +kernel) (by decide +kernel)
set_option maxRecDepth 20000 in
theorem gqb_wsX5_bytesWith_r9 : GoodIn wsL_law wsX5_bytesWith_r9 := goodIn_r _ [320, 321, 322, 323, 324, 325, 326, 327, 328, 329, 330, 76, 331, 332, 333, 19, 334, 57, 60, 335, 336, 337, 338, 339] (by decide +kernel) (by decide +kernel)
set_option maxRecDepth 20000 in
theorem gqb_wsX5_bytesWith_r10 : GoodIn wsL_law wsX5_bytesWith_r10 := goodIn_r _ [340, 58, 59, 341, 342, 343, 344, 345, 346, 347, 348, 349, 350, 351, 352, 353, 354, 355, 356, 357, 358, 359, 360, 361] (by decide +kernel) (by decide +kernel)
set_option maxRecDepth 20000 in
theorem gqb_wsX5_bytesWith_r11 : GoodIn wsL_law wsX5_bytesWith_r11 := goodIn_r _ [362, 363, 364, 365, 366, 367, 368, 369, 370, 371, 372, 373, 374, 375, 376, 377, 378, 379, 380, 381, 382, 383, 384, 82] (by decide +kernel) (by decide +kernel)
set_option maxRecDepth 20000 in
theorem gqb_wsX5_bytesWith_r12 : GoodIn wsL_law wsX5_bytesWith_r12 := goodIn_r _ [385, 386, 387, 388, 389, 390, 391, 392, 393] (by decide +kernel) (by decide +kernel)
set_option maxRecDepth 20000 in
theorem gqb_wsX50 : GoodIn wsL_law wsX50 := goodIn_r _ [594, 595, 596, 597, 598, 599, 600, 601, 602, 603, 604, 605, 606, 607] (by decide +kernel) (by decide +kernel)
set_option maxRecDepth 20000 in
theorem gqb_wsX00 : GoodIn wsL_law wsX00 := goodIn_r _ [608, 609, 610, 611, 612] (by decide +kernel) (by decide +kernel)
set_option maxRecDepth 20000 in
theorem gqb_wsX20 : GoodIn wsL_law wsX20 := goodIn_r _ [620, 621, 622, 623, 624, 625, 626, 627, 628, 629, 630, 631, 632, 633] (by decide +kernel) (by decide +kernel)
set_option maxRecDepth 20000 in
theorem gqb_wsX30 : GoodIn wsL_law wsX30 := goodIn_r _ [634, 635, 636, 637] (by decide +kernel) (by decide +kernel)
set_option maxRecDepth 20000 in
theorem gqb_wsX10 : GoodIn wsL_law wsX10 := goodIn_r _ [613, 614, 615, 616] (by decide +kernel) (by decide +kernel)
set_option maxRecDepth 20000 in
theorem ggL_law_X5_bytesWith : GoodIn wsL_law wsX5_bytesWith := goodIn_ca (goodIn_ca (goodIn_c1 (goodIn_r _ [175] (by decide +kernel) (by decide +kernel)) (goodIn_app (goodIn_app (goodIn_app (goodIn_app (goodIn_app (goodIn_app gqb_wsX5_bytesWith_r1 (goodIn_app gqb_wsX5_bytesWith_r2 (goodIn_app gqb_wsX5_bytesWith_r3 (goodIn_app gqb_wsX5_bytesWith_r4 (goodIn_app gqb_wsX5_bytesWith_r5 (goodIn_app gqb_wsX5_bytesWith_r6 (goodIn_app gqb_wsX5_bytesWith_r7 (goodIn_app gqb_wsX5_bytesWith_r8 (goodIn_app gqb_wsX5_bytesWith_r9 (goodIn_app gqb_wsX5_bytesWith_r10 (goodIn_app gqb_wsX5_bytesWith_r11 gqb_wsX5_bytesWith_r12))))))))))) gqb_wsX50) gqb_wsX00) gqb_wsX20) gqb_wsX30) gqb_wsX10)) (goodIn_sub (fun _ h => List.mem_append_left _ (List.mem_append_left _ (List.mem_append_right _ h))) (by decide +kernel))) (goodIn_sub (fun _ h => List.mem_append_left _ (List.mem_append_right _ h)) (by decide +kernel))
set_option maxRecDepth 20000 in
theorem gL_law_X5_bytesWith : GoodIn wsL_law (wsV RL 96 RX5 yX5_bytesWith wsX5_bytesWith) := goodIn_app (goodIn_of _ (by decide +kernel)) ggL_law_X5_bytesWith
end
section
set_option maxRecDepth 20000 in
theorem ggL_law_X5_digest : GoodIn wsL_law wsX5_digest := goodIn_ca (goodIn_r _ [397, 398, 399, 29, 31, 24, 400, 10, 187, 401, 402, 403, 404, 2, 405, 192, 193, 194, 195, 12, 406, 407, 408, 409, 229, 112, 230, 410, 411, 412, 413, 414, 415, 416, 417, 418, 419, 385, 386, 387, 27, 388, 389, 390, 391, 392, 393, 382, 383, 384, 82, 420, 421, 422, 423, 424, 89, 87, 88, 76, 77, 78, 425, 426, 427, 428, 80, 429, 430, 431, 432, 84, 85, 433, 434, 435, 594, 595, 596, 597, 598, 599, 600, 601, 602, 603, 604, 605, 606, 607, 617, 618, 619, 620, 621, 622, 623, 624, 625, 626, 627, 628, 629, 630, 631, 632, 633] (by decide +kernel) (by decide +kernel)) (goodIn_sub (fun _ h => List.mem_append_right _ h) (by decide +kernel))
set_option maxRecDepth 20000 in
theorem gL_law_X5_digest : GoodIn wsL_law (wsV RL 99 RX5 yX5_digest wsX5_digest) := goodIn_app (goodIn_of _ (by decide +kernel)) ggL_law_X5_digest
set_option maxRecDepth 20000 in
theorem gqp_wsX5_priceOf_r1 : GoodIn wsL_law wsX5_priceOf_r1 := goodIn_r _ [31, 28, 440, 441, 442, 2, 443, 418, 419, 176, 177, 178, 179, 180, 181, 29, 182, 183, 184, 185, 16, 186, 187, 188] (by decide +kernel) (by decide +kernel)
set_option maxRecDepth 20000 in
theorem gqp_wsX5_priceOf_r2 : GoodIn wsL_law wsX5_priceOf_r2 := goodIn_r _ [189, 34, 190, 191, 10, 192, 193, 194, 195, 12, 196, 197, 198, 41, 199, 50, 142, 143, 114, 115, 112, 116, 110, 111] (by decide +kernel) (by decide +kernel)
set_option maxRecDepth 20000 in
theorem gqp_wsX5_priceOf_r3 : GoodIn wsL_law wsX5_priceOf_r3 := goodIn_r _ [113, 160, 161, 162, 163, 35, 30, 33, 200, 201, 202, 15, 203, 204, 42, 205, 206, 207, 208, 209, 210, 211, 212, 213] (by decide +kernel) (by decide +kernel)
set_option maxRecDepth 20000 in
theorem gqp_wsX5_priceOf_r4 : GoodIn wsL_law wsX5_priceOf_r4 := goodIn_r _ [46, 214, 43, 44, 45, 215, 216, 217, 218, 219, 220, 221, 222, 223, 224, 225, 226, 227, 228, 229, 230, 231, 232, 233] (by decide +kernel) (by decide +kernel)
set_option maxRecDepth 20000 in
theorem gqp_wsX5_priceOf_r5 : GoodIn wsL_law wsX5_priceOf_r5 := goodIn_r _ [27, 234, 77, 235, 236, 237, 238, 239, 240, 78, 241, 242, 243, 244, 245, 246, 247, 248, 249, 250, 251, 252, 253, 254] (by decide +kernel) (by decide +kernel)
set_option maxRecDepth 20000 in
theorem gqp_wsX5_priceOf_r6 : GoodIn wsL_law wsX5_priceOf_r6 := goodIn_r _ [255, 256, 257, 258, 259, 118, 119, 260, 261, 262, 263, 264, 265, 266, 267, 268, 269, 270, 271, 53, 272, 273, 274, 275] (by decide +kernel) (by decide +kernel)
set_option maxRecDepth 20000 in
theorem gqp_wsX5_priceOf_r7 : GoodIn wsL_law wsX5_priceOf_r7 := goodIn_r _ [52, 276, 70, 71, 72, 277, 278, 279, 280, 281, 282, 283, 284, 125, 126, 285, 286, 287, 288, 289, 290, 291, 292, 51] (by decide +kernel) (by decide +kernel)
set_option maxRecDepth 20000 in
theorem gqp_wsX5_priceOf_r8 : GoodIn wsL_law wsX5_priceOf_r8 := goodIn_r _ [293, 294, 295, 296, 297, 298, 299, 300, 301, 302, 303, 304, 305, 306, 307, 308, 309, 310, 311, 312, 313, 314, 315, 316] (by decide +kernel) (by decide +kernel)
set_option maxRecDepth 20000 in
theorem gqp_wsX5_priceOf_r9 : GoodIn wsL_law wsX5_priceOf_r9 := goodIn_r _ [317, 318, 319, 320, 321, 322, 323, 324, 325, 326, 327, 328, 329, 330, 76] (by decide +kernel) (by decide +kernel)
set_option maxRecDepth 20000 in
theorem gqp_wsX50 : GoodIn wsL_law wsX50 := goodIn_r _ [594, 595, 596, 597, 598, 599, 600, 601, 602, 603, 604, 605, 606, 607] (by decide +kernel) (by decide +kernel)
set_option maxRecDepth 20000 in
theorem gqp_wsX20 : GoodIn wsL_law wsX20 := goodIn_r _ [620, 621, 622, 623, 624, 625, 626, 627, 628, 629, 630, 631, 632, 633] (by decide +kernel) (by decide +kernel)
set_option maxRecDepth 20000 in
theorem gqp_wsX00 : GoodIn wsL_law wsX00 := goodIn_r _ [608, 609, 610, 611, 612] (by decide +kernel) (by decide +kernel)
set_option maxRecDepth 20000 in
theorem gqp_wsX30 : GoodIn wsL_law wsX30 := goodIn_r _ [634, 635, 636, 637] (by decide +kernel) (by decide +kernel)
set_option maxRecDepth 20000 in
theorem ggL_law_X5_priceOf : GoodIn wsL_law wsX5_priceOf := goodIn_ca (goodIn_ca (goodIn_c1 (goodIn_r _ [439] (by decide +kernel) (by decide +kernel)) (goodIn_app (goodIn_app (goodIn_app (goodIn_app (goodIn_app gqp_wsX5_priceOf_r1 (goodIn_app gqp_wsX5_priceOf_r2 (goodIn_app gqp_wsX5_priceOf_r3 (goodIn_app gqp_wsX5_priceOf_r4 (goodIn_app gqp_wsX5_priceOf_r5 (goodIn_app gqp_wsX5_priceOf_r6 (goodIn_app gqp_wsX5_priceOf_r7 (goodIn_app gqp_wsX5_priceOf_r8 gqp_wsX5_priceOf_r9)))))))) gqp_wsX50) gqp_wsX20) gqp_wsX00) gqp_wsX30)) (goodIn_sub (fun _ h => List.mem_append_right _ h) (by decide +kernel))) (goodIn_sub (fun _ h => List.mem_append_left _ (List.mem_append_right _ h)) (by decide +kernel))
set_option maxRecDepth 20000 in
theorem gL_law_X5_priceOf : GoodIn wsL_law (wsV RL 103 RX5 yX5_priceOf wsX5_priceOf) := goodIn_app (goodIn_of _ (by decide +kernel)) ggL_law_X5_priceOf
end
section
set_option maxRecDepth 20000 in
theorem gqc_wsX5_code_r1 : GoodIn wsL_law wsX5_code_r1 := goodIn_r _ [31, 20, 28, 448, 12, 29, 11, 26, 27, 191, 30, 35, 176, 177, 178, 2, 179, 180, 181, 182, 183, 184, 185, 16] (by decide +kernel) (by decide +kernel)
set_option maxRecDepth 20000 in
theorem gqc_wsX5_code_r2 : GoodIn wsL_law wsX5_code_r2 := goodIn_r _ [186, 187, 188, 189, 34, 190, 10, 192, 193, 194, 195, 196, 197, 198, 41, 199, 50, 142, 143, 114, 115, 112, 116, 110] (by decide +kernel) (by decide +kernel)
set_option maxRecDepth 20000 in
theorem gqc_wsX5_code_r3 : GoodIn wsL_law wsX5_code_r3 := goodIn_r _ [111, 113, 160, 161, 162, 163, 33, 200, 201, 202, 15, 203, 204, 42, 205, 206, 207, 208, 209, 210, 211, 212, 213, 46] (by decide +kernel) (by decide +kernel)
set_option maxRecDepth 20000 in
theorem gqc_wsX5_code_r4 : GoodIn wsL_law wsX5_code_r4 := goodIn_r _ [214, 43, 44, 45, 215, 216, 217, 218, 219, 220, 221, 222, 223, 224, 225, 226, 227, 228, 229, 230, 231, 232, 233, 234] (by decide +kernel) (by decide +kernel)
set_option maxRecDepth 20000 in
theorem gqc_wsX5_code_r5 : GoodIn wsL_law wsX5_code_r5 := goodIn_r _ [77, 235, 236, 237, 238, 239, 240, 78, 241, 242, 243, 244, 245, 246, 247, 248, 249, 250, 251, 252, 253, 254, 255, 256] (by decide +kernel) (by decide +kernel)
set_option maxRecDepth 20000 in
theorem gqc_wsX5_code_r6 : GoodIn wsL_law wsX5_code_r6 := goodIn_r _ [257, 258, 259, 118, 119, 260, 261, 262, 263, 264, 265, 266, 267, 268, 269, 270, 271, 53, 272, 273, 274, 275, 52, 276] (by decide +kernel) (by decide +kernel)
set_option maxRecDepth 20000 in
theorem gqc_wsX5_code_r7 : GoodIn wsL_law wsX5_code_r7 := goodIn_r _ [70, 71, 72, 277, 278, 279, 280, 281, 282, 283, 284, 125, 126, 285, 286, 287, 288, 289, 290, 291, 292, 51, 293, 294] (by decide +kernel) (by decide +kernel)
set_option maxRecDepth 20000 in
theorem gqc_wsX5_code_r8 : GoodIn wsL_law wsX5_code_r8 := goodIn_r _ [295, 296, 297, 298, 299, 300, 301, 302, 303, 304, 305, 306, 307, 308, 309, 310, 311, 312, 313, 314, 315, 316, 317, 318] (by decide +kernel) (by decide +kernel)
set_option maxRecDepth 20000 in
theorem gqc_wsX5_code_r9 : GoodIn wsL_law wsX5_code_r9 := goodIn_r _ [319, 320, 321, 322, 323, 324, 325, 326, 327, 328, 329, 330, 76, 331, 332, 333, 19, 334, 57, 60, 335, 336, 337, 338] (by decide +kernel) (by decide +kernel)
set_option maxRecDepth 20000 in
theorem gqc_wsX5_code_r10 : GoodIn wsL_law wsX5_code_r10 := goodIn_r _ [339, 340, 58, 59, 341, 342, 343, 344, 345, 346, 347, 348, 349, 350, 351, 352, 353, 354, 355, 356, 357, 358, 359, 360] (by decide +kernel) (by decide +kernel)
set_option maxRecDepth 20000 in
theorem gqc_wsX5_code_r11 : GoodIn wsL_law wsX5_code_r11 := goodIn_r _ [361, 362, 363, 364, 365, 366, 367, 368, 369, 370, 371, 372, 373, 374, 375, 376, 377, 378, 379, 380, 381, 382, 383, 384] (by decide +kernel) (by decide +kernel)
set_option maxRecDepth 20000 in
theorem gqc_wsX5_code_r12 : GoodIn wsL_law wsX5_code_r12 := goodIn_r _ [82, 385, 386, 387, 388, 389, 390, 391, 392, 393, 449, 450, 451, 452, 453, 454, 455, 456, 457, 458, 459, 460, 461, 9] (by decide +kernel) (by decide +kernel)
set_option maxRecDepth 20000 in
theorem gqc_wsX5_code_r13 : GoodIn wsL_law wsX5_code_r13 := goodIn_r _ [462, 463, 138, 139, 140, 73, 74, 75, 7, 8, 79, 80, 81, 83, 84, 85, 86, 87, 88, 89, 90, 464, 465, 466] (by decide +kernel) (by decide +kernel)
set_option maxRecDepth 20000 in
theorem gqc_wsX5_code_r14 : GoodIn wsL_law wsX5_code_r14 := goodIn_r _ [467, 32] (by decide +kernel) (by decide +kernel)
set_option maxRecDepth 20000 in
theorem gqc_wsX50 : GoodIn wsL_law wsX50 := goodIn_r _ [594, 595, 596, 597, 598, 599, 600, 601, 602, 603, 604, 605, 606, 607] (by decide +kernel) (by decide +kernel)
set_option maxRecDepth 20000 in
theorem gqc_wsX20 : GoodIn wsL_law wsX20 := goodIn_r _ [620, 621, 622, 623, 624, 625, 626, 627, 628, 629, 630, 631, 632, 633] (by decide +kernel) (by decide +kernel)
set_option maxRecDepth 20000 in
theorem gqc_wsX00 : GoodIn wsL_law wsX00 := goodIn_r _ [608, 609, 610, 611, 612] (by decide +kernel) (by decide +kernel)
set_option maxRecDepth 20000 in
theorem gqc_wsX30 : GoodIn wsL_law wsX30 := goodIn_r _ [634, 635, 636, 637] (by decide +kernel) (by decide +kernel)
set_option maxRecDepth 20000 in
theorem gqc_wsX10 : GoodIn wsL_law wsX10 := goodIn_r _ [613, 614, 615, 616] (by decide +kernel) (by decide +kernel)
set_option maxRecDepth 20000 in
theorem ggL_law_X5_code : GoodIn wsL_law wsX5_code := goodIn_ca (goodIn_c1 (goodIn_r _ [447] (by decide +kernel) (by decide +kernel)) (goodIn_app (goodIn_app (goodIn_app (goodIn_app (goodIn_app (goodIn_app gqc_wsX5_code_r1 (goodIn_app gqc_wsX5_code_r2 (goodIn_app gqc_wsX5_code_r3 (goodIn_app gqc_wsX5_code_r4 (goodIn_app gqc_wsX5_code_r5 (goodIn_app gqc_wsX5_code_r6 (goodIn_app gqc_wsX5_code_r7 (goodIn_app gqc_wsX5_code_r8 (goodIn_app gqc_wsX5_code_r9 (goodIn_app gqc_wsX5_code_r10 (goodIn_app gqc_wsX5_code_r11 (goodIn_app gqc_wsX5_code_r12 (goodIn_app gqc_wsX5_code_r13 gqc_wsX5_code_r14))))))))))))) gqc_wsX50) gqc_wsX20) gqc_wsX00) gqc_wsX30) gqc_wsX10)) (goodIn_sub (fun _ h => List.mem_append_left _ (List.mem_append_right _ h)) (by decide +kernel))
end
section
set_option maxRecDepth 20000 in
theorem gL_law_X5_code : GoodIn wsL_law (wsV RL 106 RX5 yX5_code wsX5_code) := goodIn_app (goodIn_of _ (by decide +kernel)) ggL_law_X5_code
set_option maxRecDepth 20000 in
theorem ggL_law_L_isSound : GoodIn wsL_law wsL_isSound := goodIn_ca (goodIn_r _ [470, 471, 229, 112, 230, 472, 473, 474, 2, 475, 476, 414, 415, 416, 417, 418, 419, 192, 193, 194, 195, 29, 12, 441, 442, 443, 477, 478, 479, 480, 481, 426, 427, 27, 428, 80, 482, 483, 484, 485, 191, 486, 487, 488, 489, 490, 491, 492, 493, 494, 495, 496, 497, 498, 499, 500, 501, 502, 503, 504, 505, 382, 383, 384, 82, 506, 507, 508, 509, 448, 510, 390, 391, 392, 393, 511, 512, 513, 514, 515, 620, 621, 622, 623, 624, 625, 626, 627, 628, 629, 630, 631, 632, 633, 594, 595, 596, 597, 598, 599, 600, 601, 602, 603, 604, 605, 606, 607] (by decide +kernel) (by decide +kernel)) (goodIn_sub (fun _ h => List.mem_append_right _ h) (by decide +kernel))
set_option maxRecDepth 20000 in
theorem gL_law_L_isSound : GoodIn wsL_law (va_wsS RL 109 yL_isSound wsL_isSound) := goodIn_app (goodIn_of _ (by decide +kernel)) ggL_law_L_isSound
set_option maxRecDepth 20000 in
theorem ggL_law_X5_hand : GoodIn wsL_law wsX5_hand := goodIn_ca (goodIn_r _ [519, 414, 415, 416, 2, 417, 418, 419, 192, 193, 194, 195, 29, 12, 441, 442, 443, 520, 521, 522, 523, 188, 24, 400, 524, 594, 595, 596, 597, 598, 599, 600, 601, 602, 603, 604, 605, 606, 607, 620, 621, 622, 623, 624, 625, 626, 627, 628, 629, 630, 631, 632, 633, 617, 618, 619] (by decide +kernel) (by decide +kernel)) (goodIn_sub (fun _ h => List.mem_append_right _ h) (by decide +kernel))
set_option maxRecDepth 20000 in
theorem gL_law_X5_hand : GoodIn wsL_law (wsV RL 113 RX5 yX5_hand wsX5_hand) := goodIn_app (goodIn_of _ (by decide +kernel)) ggL_law_X5_hand
set_option maxRecDepth 20000 in
theorem ggL_law_X5_driftNext : GoodIn wsL_law wsX5_driftNext := goodIn_r _ [528, 24, 400, 529, 530, 187, 192, 193, 194, 2, 195, 29, 12, 531, 532, 533, 23, 534, 66, 67, 535, 536, 537, 538, 539, 540, 541, 542, 197, 198, 41, 199, 50, 142, 143, 114, 115, 112, 116, 110, 111, 113, 543, 265, 266, 267, 268, 269, 270, 271, 53, 246, 247, 248, 249, 252, 253, 254, 255, 272, 273, 274, 275, 52, 235, 236, 250, 251, 276, 70, 71, 72, 277, 278, 279, 280, 281, 282, 283, 284, 125, 126, 544, 312, 313, 314, 51, 293, 300, 301, 302, 303, 304, 305, 306, 307, 294, 295, 296, 297, 298, 299, 545, 546, 547, 548, 549, 550, 551, 552, 553, 554, 555, 27, 556, 84, 557, 316, 317, 318, 319, 320, 321, 322, 245, 229, 230, 406, 407, 408, 409, 594, 595, 596, 597, 598, 599, 600, 601, 602, 603, 604, 605, 606, 607, 617, 618, 619, 634, 635, 636, 637, 620, 621, 622, 623, 624, 625, 626, 627, 628, 629, 630, 631, 632, 633] (by decide +kernel) (by decide +kernel)
set_option maxRecDepth 20000 in
theorem gL_law_X5_driftNext : GoodIn wsL_law (wsV RL 117 RX5 yX5_driftNext wsX5_driftNext) := goodIn_app (goodIn_of _ (by decide +kernel)) ggL_law_X5_driftNext
set_option maxRecDepth 20000 in
theorem ggL_law_X5_shown : GoodIn wsL_law wsX5_shown := goodIn_r _ [561, 24, 400, 594, 595, 596, 597, 598, 599, 600, 601, 602, 603, 604, 605, 606, 607, 617, 618, 619] (by decide +kernel) (by decide +kernel)
set_option maxRecDepth 20000 in
theorem gL_law_X5_shown : GoodIn wsL_law (wsV RL 120 RX5 yX5_shown wsX5_shown) := goodIn_app (goodIn_of _ (by decide +kernel)) ggL_law_X5_shown
set_option maxRecDepth 20000 in
theorem ggL_law_X5_show : GoodIn wsL_law wsX5_show := goodIn_ca (goodIn_r _ [565, 180, 181, 24, 400, 192, 193, 194, 2, 195, 29, 12, 531, 532, 533, 23, 534, 66, 67, 535, 536, 537, 538, 539, 540, 541, 542, 197, 198, 41, 199, 50, 142, 143, 114, 115, 112, 116, 110, 111, 113, 543, 265, 266, 267, 268, 269, 270, 271, 53, 246, 247, 248, 249, 252, 253, 254, 255, 272, 273, 274, 275, 52, 235, 236, 250, 251, 276, 70, 71, 72, 277, 278, 279, 280, 281, 282, 283, 284, 125, 126, 544, 312, 313, 314, 51, 293, 300, 301, 302, 303, 304, 305, 306, 307, 294, 295, 296, 297, 298, 299, 545, 546, 547, 548, 549, 550, 551, 552, 553, 554, 555, 27, 556, 84, 557, 316, 317, 318, 319, 320, 321, 322, 245, 229, 230, 566, 567, 568, 569, 570, 571, 138, 139, 140, 68, 572, 594, 595, 596, 597, 598, 599, 600, 601, 602, 603, 604, 605, 606, 607, 617, 618, 619, 620, 621, 622, 623, 624, 625, 626, 627, 628, 629, 630, 631, 632, 633, 634, 635, 636, 637] (by decide +kernel) (by decide +kernel)) (goodIn_sub (fun _ h => List.mem_append_left _ (List.mem_append_right _ h)) (by decide +kernel))
set_option maxRecDepth 20000 in
theorem gL_law_X5_show : GoodIn wsL_law (wsV RL 123 RX5 yX5_show wsX5_show) := goodIn_app (goodIn_of _ (by decide +kernel)) ggL_law_X5_show
set_option maxRecDepth 20000 in
theorem ggL_law_X5_drift : GoodIn wsL_law wsX5_drift := goodIn_r _ [405, 24, 400, 401, 187, 192, 193, 194, 2, 195, 29, 12, 406, 407, 408, 409, 229, 112, 230, 594, 595, 596, 597, 598, 599, 600, 601, 602, 603, 604, 605, 606, 607, 617, 618, 619, 620, 621, 622, 623, 624, 625, 626, 627, 628, 629, 630, 631, 632, 633] (by decide +kernel) (by decide +kernel)
set_option maxRecDepth 20000 in
theorem gL_law_X5_drift : GoodIn wsL_law (wsV RL 126 RX5 yX5_drift wsX5_drift) := goodIn_app (goodIn_of _ (by decide +kernel)) ggL_law_X5_drift
set_option maxRecDepth 20000 in
theorem ggL_law_X5_isKey : GoodIn wsL_law wsX5_isKey := goodIn_ca (goodIn_r _ [485, 191, 414, 415, 416, 2, 417, 418, 419, 192, 193, 194, 195, 29, 12, 620, 621, 622, 623, 624, 625, 626, 627, 628, 629, 630, 631, 632, 633, 594, 595, 596, 597, 598, 599, 600, 601, 602, 603, 604, 605, 606, 607] (by decide +kernel) (by decide +kernel)) (goodIn_sub (fun _ h => List.mem_append_right _ h) (by decide +kernel))
set_option maxRecDepth 20000 in
theorem gL_law_X5_isKey : GoodIn wsL_law (wsV RL 42 RX5 yX5_isKey wsX5_isKey) := goodIn_app (goodIn_of _ (by decide +kernel)) ggL_law_X5_isKey
set_option maxRecDepth 20000 in
theorem ggL_law_X5_shownAt : GoodIn wsL_law wsX5_shownAt := goodIn_ca (goodIn_r _ [577, 24, 401, 578, 579, 2, 580, 441, 442, 443, 418, 419, 594, 595, 596, 597, 598, 599, 600, 601, 602, 603, 604, 605, 606, 607, 617, 618, 619] (by decide +kernel) (by decide +kernel)) (goodIn_sub (fun _ h => List.mem_append_right _ h) (by decide +kernel))
set_option maxRecDepth 20000 in
theorem gL_law_X5_shownAt : GoodIn wsL_law (wsV RL 129 RX5 yX5_shownAt wsX5_shownAt) := goodIn_app (goodIn_of _ (by decide +kernel)) ggL_law_X5_shownAt
set_option maxRecDepth 20000 in
theorem ggL_law_X5_resultAt : GoodIn wsL_law wsX5_resultAt := goodIn_ca (goodIn_r _ [584, 187, 414, 415, 416, 2, 417, 418, 419, 192, 193, 194, 195, 29, 12, 578, 579, 580, 441, 442, 443, 620, 621, 622, 623, 624, 625, 626, 627, 628, 629, 630, 631, 632, 633, 594, 595, 596, 597, 598, 599, 600, 601, 602, 603, 604, 605, 606, 607] (by decide +kernel) (by decide +kernel)) (goodIn_sub (fun _ h => List.mem_append_right _ h) (by decide +kernel))
set_option maxRecDepth 20000 in
theorem gL_law_X5_resultAt : GoodIn wsL_law (wsV RL 132 RX5 yX5_resultAt wsX5_resultAt) := goodIn_app (goodIn_of _ (by decide +kernel)) ggL_law_X5_resultAt
set_option maxRecDepth 20000 in
theorem ggL_law_X5_bytesOfAll : GoodIn wsL_law wsX5_bytesOfAll := goodIn_ca (goodIn_r _ [413, 29, 414, 415, 416, 2, 417, 418, 419, 192, 193, 194, 195, 12, 385, 386, 387, 27, 388, 389, 390, 391, 392, 393, 382, 383, 384, 82, 594, 595, 596, 597, 598, 599, 600, 601, 602, 603, 604, 605, 606, 607, 620, 621, 622, 623, 624, 625, 626, 627, 628, 629, 630, 631, 632, 633] (by decide +kernel) (by decide +kernel)) (goodIn_sub (fun _ h => List.mem_append_right _ h) (by decide +kernel))
set_option maxRecDepth 20000 in
theorem gL_law_X5_bytesOfAll : GoodIn wsL_law (wsV RL 135 RX5 yX5_bytesOfAll wsX5_bytesOfAll) := goodIn_app (goodIn_of _ (by decide +kernel)) ggL_law_X5_bytesOfAll
set_option maxRecDepth 20000 in
theorem ggL_law_X5_pictures : GoodIn wsL_law wsX5_pictures := goodIn_r _ [589, 29, 594, 595, 596, 597, 598, 599, 600, 601, 602, 603, 604, 605, 606, 607] (by decide +kernel) (by decide +kernel)
set_option maxRecDepth 20000 in
theorem gL_law_X5_pictures : GoodIn wsL_law (wsV RL 138 RX5 yX5_pictures wsX5_pictures) := goodIn_app (goodIn_of _ (by decide +kernel)) ggL_law_X5_pictures
set_option maxRecDepth 20000 in
theorem ggL_law_X5_meanError : GoodIn wsL_law wsX5_meanError := goodIn_ca (goodIn_r _ [593, 29, 515, 414, 415, 416, 2, 417, 418, 419, 192, 193, 194, 195, 12, 594, 595, 596, 597, 598, 599, 600, 601, 602, 603, 604, 605, 606, 607, 620, 621, 622, 623, 624, 625, 626, 627, 628, 629, 630, 631, 632, 633] (by decide +kernel) (by decide +kernel)) (goodIn_sub (fun _ h => List.mem_append_right _ h) (by decide +kernel))
set_option maxRecDepth 20000 in
theorem gL_law_X5_meanError : GoodIn wsL_law (wsV RL 141 RX5 yX5_meanError wsX5_meanError) := goodIn_app (goodIn_of _ (by decide +kernel)) ggL_law_X5_meanError
theorem dL_law_0 : decode cL_law 0 = .ok (.new 16, 3) := by decide +kernel
theorem dL_law_3 : decode cL_law 3 = .ok (.dup, 1) := by decide +kernel
theorem dL_law_4 : decode cL_law 4 = .ok (.invokespecial 69, 3) := by decide +kernel
theorem dL_law_7 : decode cL_law 7 = .ok (.astore_n 1, 1) := by decide +kernel
theorem dL_law_8 : decode cL_law 8 = .ok (.iconst 1, 1) := by decide +kernel
theorem dL_law_9 : decode cL_law 9 = .ok (.istore_n 2, 1) := by decide +kernel
theorem dL_law_10 : decode cL_law 10 = .ok (.iconst 0, 1) := by decide +kernel
theorem dL_law_11 : decode cL_law 11 = .ok (.istore_n 3, 1) := by decide +kernel
theorem dL_law_12 : decode cL_law 12 = .ok (.iconst 0, 1) := by decide +kernel
theorem dL_law_13 : decode cL_law 13 = .ok (.istore 4, 2) := by decide +kernel
theorem dL_law_15 : decode cL_law 15 = .ok (.iload 4, 2) := by decide +kernel
theorem dL_law_17 : decode cL_law 17 = .ok (.bipush 8, 2) := by decide +kernel
theorem dL_law_19 : decode cL_law 19 = .ok (.if_icmp .ge 476, 3) := by decide +kernel
theorem dL_law_22 : decode cL_law 22 = .ok (.aload_n 0, 1) := by decide +kernel
theorem dL_law_23 : decode cL_law 23 = .ok (.iload 4, 2) := by decide +kernel
theorem dL_law_25 : decode cL_law 25 = .ok (.invokestatic 70, 3) := by decide +kernel
theorem dL_law_28 : decode cL_law 28 = .ok (.istore 5, 2) := by decide +kernel
theorem dL_law_30 : decode cL_law 30 = .ok (.aload_n 0, 1) := by decide +kernel
theorem dL_law_31 : decode cL_law 31 = .ok (.iload 4, 2) := by decide +kernel
theorem dL_law_33 : decode cL_law 33 = .ok (.bipush 7, 2) := by decide +kernel
theorem dL_law_35 : decode cL_law 35 = .ok (.iadd, 1) := by decide +kernel
theorem dL_law_36 : decode cL_law 36 = .ok (.invokestatic 70, 3) := by decide +kernel
theorem dL_law_39 : decode cL_law 39 = .ok (.istore 6, 2) := by decide +kernel
theorem dL_law_41 : decode cL_law 41 = .ok (.aload_n 1, 1) := by decide +kernel
theorem dL_law_42 : decode cL_law 42 = .ok (.iload 4, 2) := by decide +kernel
theorem dL_law_44 : decode cL_law 44 = .ok (.ifCond .ne 8, 3) := by decide +kernel
theorem dL_law_47 : decode cL_law 47 = .ok (.iload 5, 2) := by decide +kernel
theorem dL_law_49 : decode cL_law 49 = .ok (.goto 15, 3) := by decide +kernel
theorem dL_law_52 : decode cL_law 52 = .ok (.iconst 3, 1) := by decide +kernel
theorem dL_law_53 : decode cL_law 53 = .ok (.bipush 8, 2) := by decide +kernel
theorem dL_law_55 : decode cL_law 55 = .ok (.iload 5, 2) := by decide +kernel
theorem dL_law_57 : decode cL_law 57 = .ok (.bipush 49, 2) := by decide +kernel
theorem dL_law_59 : decode cL_law 59 = .ok (.invokestatic 9, 3) := by decide +kernel
theorem dL_law_62 : decode cL_law 62 = .ok (.imul, 1) := by decide +kernel
theorem dL_law_63 : decode cL_law 63 = .ok (.iadd, 1) := by decide +kernel
theorem dL_law_64 : decode cL_law 64 = .ok (.iload 6, 2) := by decide +kernel
theorem dL_law_66 : decode cL_law 66 = .ok (.invokestatic 74, 3) := by decide +kernel
theorem dL_law_69 : decode cL_law 69 = .ok (.iload 5, 2) := by decide +kernel
theorem dL_law_71 : decode cL_law 71 = .ok (.iconst 4, 1) := by decide +kernel
theorem dL_law_72 : decode cL_law 72 = .ok (.ishr, 1) := by decide +kernel
theorem dL_law_73 : decode cL_law 73 = .ok (.iconst 3, 1) := by decide +kernel
theorem dL_law_74 : decode cL_law 74 = .ok (.invokestatic 9, 3) := by decide +kernel
theorem dL_law_77 : decode cL_law 77 = .ok (.ifCond .ne 11, 3) := by decide +kernel
theorem dL_law_80 : decode cL_law 80 = .ok (.aload_n 1, 1) := by decide +kernel
theorem dL_law_81 : decode cL_law 81 = .ok (.iload 6, 2) := by decide +kernel
theorem dL_law_83 : decode cL_law 83 = .ok (.iload 5, 2) := by decide +kernel
theorem dL_law_85 : decode cL_law 85 = .ok (.invokestatic 74, 3) := by decide +kernel
theorem dL_law_88 : decode cL_law 88 = .ok (.iload 6, 2) := by decide +kernel
theorem dL_law_90 : decode cL_law 90 = .ok (.iconst 3, 1) := by decide +kernel
theorem dL_law_91 : decode cL_law 91 = .ok (.ishr, 1) := by decide +kernel
theorem dL_law_92 : decode cL_law 92 = .ok (.iconst 3, 1) := by decide +kernel
theorem dL_law_93 : decode cL_law 93 = .ok (.invokestatic 9, 3) := by decide +kernel
theorem dL_law_96 : decode cL_law 96 = .ok (.ifCond .ne 19, 3) := by decide +kernel
theorem dL_law_99 : decode cL_law 99 = .ok (.aload_n 1, 1) := by decide +kernel
theorem dL_law_100 : decode cL_law 100 = .ok (.iconst 1, 1) := by decide +kernel
theorem dL_law_101 : decode cL_law 101 = .ok (.iload 6, 2) := by decide +kernel
theorem dL_law_103 : decode cL_law 103 = .ok (.iconst 5, 1) := by decide +kernel
theorem dL_law_104 : decode cL_law 104 = .ok (.ishr, 1) := by decide +kernel
theorem dL_law_105 : decode cL_law 105 = .ok (.bipush 40, 2) := by decide +kernel
theorem dL_law_107 : decode cL_law 107 = .ok (.invokestatic 9, 3) := by decide +kernel
theorem dL_law_110 : decode cL_law 110 = .ok (.iadd, 1) := by decide +kernel
theorem dL_law_111 : decode cL_law 111 = .ok (.invokevirtual 78, 3) := by decide +kernel
theorem dL_law_114 : decode cL_law 114 = .ok (.pop, 1) := by decide +kernel
theorem dL_law_115 : decode cL_law 115 = .ok (.iload 6, 2) := by decide +kernel
theorem dL_law_117 : decode cL_law 117 = .ok (.bipush 7, 2) := by decide +kernel
theorem dL_law_119 : decode cL_law 119 = .ok (.ishr, 1) := by decide +kernel
theorem dL_law_120 : decode cL_law 120 = .ok (.iconst 4, 1) := by decide +kernel
theorem dL_law_121 : decode cL_law 121 = .ok (.invokestatic 9, 3) := by decide +kernel
theorem dL_law_124 : decode cL_law 124 = .ok (.ifCond .ne 22, 3) := by decide +kernel
theorem dL_law_127 : decode cL_law 127 = .ok (.aload_n 1, 1) := by decide +kernel
theorem dL_law_128 : decode cL_law 128 = .ok (.iload 5, 2) := by decide +kernel
theorem dL_law_130 : decode cL_law 130 = .ok (.iconst 2, 1) := by decide +kernel
theorem dL_law_131 : decode cL_law 131 = .ok (.invokestatic 9, 3) := by decide +kernel
theorem dL_law_134 : decode cL_law 134 = .ok (.ifCond .ne 7, 3) := by decide +kernel
theorem dL_law_137 : decode cL_law 137 = .ok (.iconst 1, 1) := by decide +kernel
theorem dL_law_138 : decode cL_law 138 = .ok (.goto 4, 3) := by decide +kernel
theorem dL_law_141 : decode cL_law 141 = .ok (.iconst 0, 1) := by decide +kernel
theorem dL_law_142 : decode cL_law 142 = .ok (.invokevirtual 81, 3) := by decide +kernel
theorem dL_law_145 : decode cL_law 145 = .ok (.pop, 1) := by decide +kernel
theorem dL_law_146 : decode cL_law 146 = .ok (.iload 5, 2) := by decide +kernel
theorem dL_law_148 : decode cL_law 148 = .ok (.bipush 6, 2) := by decide +kernel
theorem dL_law_150 : decode cL_law 150 = .ok (.ishr, 1) := by decide +kernel
theorem dL_law_151 : decode cL_law 151 = .ok (.iconst 5, 1) := by decide +kernel
theorem dL_law_152 : decode cL_law 152 = .ok (.invokestatic 9, 3) := by decide +kernel
theorem dL_law_155 : decode cL_law 155 = .ok (.ifCond .ne 8, 3) := by decide +kernel
theorem dL_law_158 : decode cL_law 158 = .ok (.aload_n 1, 1) := by decide +kernel
theorem dL_law_159 : decode cL_law 159 = .ok (.invokevirtual 85, 3) := by decide +kernel
theorem dL_law_162 : decode cL_law 162 = .ok (.pop, 1) := by decide +kernel
theorem dL_law_163 : decode cL_law 163 = .ok (.iload 5, 2) := by decide +kernel
theorem dL_law_165 : decode cL_law 165 = .ok (.bipush 8, 2) := by decide +kernel
theorem dL_law_167 : decode cL_law 167 = .ok (.ishr, 1) := by decide +kernel
theorem dL_law_168 : decode cL_law 168 = .ok (.iconst 4, 1) := by decide +kernel
theorem dL_law_169 : decode cL_law 169 = .ok (.invokestatic 9, 3) := by decide +kernel
theorem dL_law_172 : decode cL_law 172 = .ok (.ifCond .ne 17, 3) := by decide +kernel
theorem dL_law_175 : decode cL_law 175 = .ok (.aload_n 1, 1) := by decide +kernel
theorem dL_law_176 : decode cL_law 176 = .ok (.iload 6, 2) := by decide +kernel
theorem dL_law_178 : decode cL_law 178 = .ok (.iconst 2, 1) := by decide +kernel
theorem dL_law_179 : decode cL_law 179 = .ok (.ishr, 1) := by decide +kernel
theorem dL_law_180 : decode cL_law 180 = .ok (.bipush 120, 2) := by decide +kernel
theorem dL_law_182 : decode cL_law 182 = .ok (.invokestatic 9, 3) := by decide +kernel
theorem dL_law_185 : decode cL_law 185 = .ok (.invokevirtual 89, 3) := by decide +kernel
theorem dL_law_188 : decode cL_law 188 = .ok (.pop, 1) := by decide +kernel
theorem dL_law_189 : decode cL_law 189 = .ok (.aload_n 1, 1) := by decide +kernel
theorem dL_law_190 : decode cL_law 190 = .ok (.aload_n 1, 1) := by decide +kernel
theorem dL_law_191 : decode cL_law 191 = .ok (.invokevirtual 92, 3) := by decide +kernel
theorem dL_law_194 : decode cL_law 194 = .ok (.invokevirtual 96, 3) := by decide +kernel
theorem dL_law_197 : decode cL_law 197 = .ok (.istore 7, 2) := by decide +kernel
theorem dL_law_199 : decode cL_law 199 = .ok (.aload_n 1, 1) := by decide +kernel
theorem dL_law_200 : decode cL_law 200 = .ok (.invokevirtual 99, 3) := by decide +kernel
theorem dL_law_203 : decode cL_law 203 = .ok (.lstore 8, 2) := by decide +kernel
theorem dL_law_205 : decode cL_law 205 = .ok (.aload_n 1, 1) := by decide +kernel
theorem dL_law_206 : decode cL_law 206 = .ok (.iload 6, 2) := by decide +kernel
theorem dL_law_208 : decode cL_law 208 = .ok (.bipush 12, 2) := by decide +kernel
theorem dL_law_210 : decode cL_law 210 = .ok (.invokestatic 9, 3) := by decide +kernel
theorem dL_law_213 : decode cL_law 213 = .ok (.invokevirtual 103, 3) := by decide +kernel
theorem dL_law_216 : decode cL_law 216 = .ok (.istore 10, 2) := by decide +kernel
theorem dL_law_218 : decode cL_law 218 = .ok (.iload 10, 2) := by decide +kernel
theorem dL_law_220 : decode cL_law 220 = .ok (.iconst 1, 1) := by decide +kernel
theorem dL_law_221 : decode cL_law 221 = .ok (.if_icmp .lt 49, 3) := by decide +kernel
theorem dL_law_224 : decode cL_law 224 = .ok (.aload_n 1, 1) := by decide +kernel
theorem dL_law_225 : decode cL_law 225 = .ok (.iconst 1, 1) := by decide +kernel
theorem dL_law_226 : decode cL_law 226 = .ok (.iload 5, 2) := by decide +kernel
theorem dL_law_228 : decode cL_law 228 = .ok (.bipush 60, 2) := by decide +kernel
theorem dL_law_230 : decode cL_law 230 = .ok (.invokestatic 9, 3) := by decide +kernel
theorem dL_law_233 : decode cL_law 233 = .ok (.iadd, 1) := by decide +kernel
theorem dL_law_234 : decode cL_law 234 = .ok (.invokevirtual 96, 3) := by decide +kernel
theorem dL_law_237 : decode cL_law 237 = .ok (.bipush 9, 2) := by decide +kernel
theorem dL_law_239 : decode cL_law 239 = .ok (.if_icmp .lt 31, 3) := by decide +kernel
theorem dL_law_242 : decode cL_law 242 = .ok (.aload_n 1, 1) := by decide +kernel
theorem dL_law_243 : decode cL_law 243 = .ok (.invokevirtual 99, 3) := by decide +kernel
theorem dL_law_246 : decode cL_law 246 = .ok (.lload 8, 2) := by decide +kernel
theorem dL_law_248 : decode cL_law 248 = .ok (.lcmp, 1) := by decide +kernel
theorem dL_law_249 : decode cL_law 249 = .ok (.ifCond .ne 21, 3) := by decide +kernel
theorem dL_law_252 : decode cL_law 252 = .ok (.aload_n 1, 1) := by decide +kernel
theorem dL_law_253 : decode cL_law 253 = .ok (.invokevirtual 106, 3) := by decide +kernel
theorem dL_law_256 : decode cL_law 256 = .ok (.iload 7, 2) := by decide +kernel
theorem dL_law_258 : decode cL_law 258 = .ok (.if_icmp .ne 12, 3) := by decide +kernel
theorem dL_law_261 : decode cL_law 261 = .ok (.aload_n 1, 1) := by decide +kernel
theorem dL_law_262 : decode cL_law 262 = .ok (.iload 4, 2) := by decide +kernel
theorem dL_law_264 : decode cL_law 264 = .ok (.invokestatic 109, 3) := by decide +kernel
theorem dL_law_267 : decode cL_law 267 = .ok (.ifCond .ne 5, 3) := by decide +kernel
theorem dL_law_270 : decode cL_law 270 = .ok (.iconst 0, 1) := by decide +kernel
theorem dL_law_271 : decode cL_law 271 = .ok (.ireturn, 1) := by decide +kernel
theorem dL_law_272 : decode cL_law 272 = .ok (.iload_n 3, 1) := by decide +kernel
theorem dL_law_273 : decode cL_law 273 = .ok (.iload 7, 2) := by decide +kernel
theorem dL_law_275 : decode cL_law 275 = .ok (.iadd, 1) := by decide +kernel
theorem dL_law_276 : decode cL_law 276 = .ok (.istore_n 3, 1) := by decide +kernel
theorem dL_law_277 : decode cL_law 277 = .ok (.iconst 0, 1) := by decide +kernel
theorem dL_law_278 : decode cL_law 278 = .ok (.istore 11, 2) := by decide +kernel
theorem dL_law_280 : decode cL_law 280 = .ok (.iconst 0, 1) := by decide +kernel
theorem dL_law_281 : decode cL_law 281 = .ok (.istore 12, 2) := by decide +kernel
theorem dL_law_283 : decode cL_law 283 = .ok (.iload 12, 2) := by decide +kernel
theorem dL_law_285 : decode cL_law 285 = .ok (.iconst 3, 1) := by decide +kernel
theorem dL_law_286 : decode cL_law 286 = .ok (.if_icmp .ge 49, 3) := by decide +kernel
theorem dL_law_289 : decode cL_law 289 = .ok (.aload_n 0, 1) := by decide +kernel
theorem dL_law_290 : decode cL_law 290 = .ok (.bipush 15, 2) := by decide +kernel
theorem dL_law_292 : decode cL_law 292 = .ok (.iload 4, 2) := by decide +kernel
theorem dL_law_294 : decode cL_law 294 = .ok (.isub, 1) := by decide +kernel
theorem dL_law_295 : decode cL_law 295 = .ok (.invokestatic 70, 3) := by decide +kernel
theorem dL_law_298 : decode cL_law 298 = .ok (.iconst 2, 1) := by decide +kernel
theorem dL_law_299 : decode cL_law 299 = .ok (.iload 12, 2) := by decide +kernel
theorem dL_law_301 : decode cL_law 301 = .ok (.imul, 1) := by decide +kernel
theorem dL_law_302 : decode cL_law 302 = .ok (.ishr, 1) := by decide +kernel
theorem dL_law_303 : decode cL_law 303 = .ok (.iconst 5, 1) := by decide +kernel
theorem dL_law_304 : decode cL_law 304 = .ok (.invokestatic 9, 3) := by decide +kernel
theorem dL_law_307 : decode cL_law 307 = .ok (.ifCond .ne 6, 3) := by decide +kernel
theorem dL_law_310 : decode cL_law 310 = .ok (.goto 19, 3) := by decide +kernel
theorem dL_law_313 : decode cL_law 313 = .ok (.aload_n 1, 1) := by decide +kernel
theorem dL_law_314 : decode cL_law 314 = .ok (.iload 4, 2) := by decide +kernel
theorem dL_law_316 : decode cL_law 316 = .ok (.iload 12, 2) := by decide +kernel
theorem dL_law_318 : decode cL_law 318 = .ok (.invokevirtual 113, 3) := by decide +kernel
theorem dL_law_321 : decode cL_law 321 = .ok (.ifCond .ne 5, 3) := by decide +kernel
theorem dL_law_324 : decode cL_law 324 = .ok (.iconst 0, 1) := by decide +kernel
theorem dL_law_325 : decode cL_law 325 = .ok (.ireturn, 1) := by decide +kernel
theorem dL_law_326 : decode cL_law 326 = .ok (.iinc 11 1, 3) := by decide +kernel
theorem dL_law_329 : decode cL_law 329 = .ok (.iinc 12 1, 3) := by decide +kernel
theorem dL_law_332 : decode cL_law 332 = .ok (.goto (-49), 3) := by decide +kernel
theorem dL_law_335 : decode cL_law 335 = .ok (.aload_n 1, 1) := by decide +kernel
theorem dL_law_336 : decode cL_law 336 = .ok (.invokevirtual 117, 3) := by decide +kernel
theorem dL_law_339 : decode cL_law 339 = .ok (.istore 12, 2) := by decide +kernel
theorem dL_law_341 : decode cL_law 341 = .ok (.aload_n 1, 1) := by decide +kernel
theorem dL_law_342 : decode cL_law 342 = .ok (.invokevirtual 120, 3) := by decide +kernel
theorem dL_law_345 : decode cL_law 345 = .ok (.iload 4, 2) := by decide +kernel
theorem dL_law_347 : decode cL_law 347 = .ok (.if_icmp .ne 41, 3) := by decide +kernel
theorem dL_law_350 : decode cL_law 350 = .ok (.aload_n 1, 1) := by decide +kernel
theorem dL_law_351 : decode cL_law 351 = .ok (.invokevirtual 123, 3) := by decide +kernel
theorem dL_law_354 : decode cL_law 354 = .ok (.iconst 3, 1) := by decide +kernel
theorem dL_law_355 : decode cL_law 355 = .ok (.iload 11, 2) := by decide +kernel
theorem dL_law_357 : decode cL_law 357 = .ok (.isub, 1) := by decide +kernel
theorem dL_law_358 : decode cL_law 358 = .ok (.if_icmp .ne 30, 3) := by decide +kernel
theorem dL_law_361 : decode cL_law 361 = .ok (.aload_n 1, 1) := by decide +kernel
theorem dL_law_362 : decode cL_law 362 = .ok (.invokevirtual 126, 3) := by decide +kernel
theorem dL_law_365 : decode cL_law 365 = .ok (.iload 12, 2) := by decide +kernel
theorem dL_law_367 : decode cL_law 367 = .ok (.if_icmp .ne 21, 3) := by decide +kernel
theorem dL_law_370 : decode cL_law 370 = .ok (.aload_n 1, 1) := by decide +kernel
theorem dL_law_371 : decode cL_law 371 = .ok (.iload 4, 2) := by decide +kernel
theorem dL_law_373 : decode cL_law 373 = .ok (.iconst 1, 1) := by decide +kernel
theorem dL_law_374 : decode cL_law 374 = .ok (.invokevirtual 113, 3) := by decide +kernel
theorem dL_law_377 : decode cL_law 377 = .ok (.ifCond .ne 11, 3) := by decide +kernel
theorem dL_law_380 : decode cL_law 380 = .ok (.aload_n 1, 1) := by decide +kernel
theorem dL_law_381 : decode cL_law 381 = .ok (.invokevirtual 117, 3) := by decide +kernel
theorem dL_law_384 : decode cL_law 384 = .ok (.iconst (-1), 1) := by decide +kernel
theorem dL_law_385 : decode cL_law 385 = .ok (.if_icmp .eq 5, 3) := by decide +kernel
theorem dL_law_388 : decode cL_law 388 = .ok (.iconst 0, 1) := by decide +kernel
theorem dL_law_389 : decode cL_law 389 = .ok (.ireturn, 1) := by decide +kernel
theorem dL_law_390 : decode cL_law 390 = .ok (.iload 11, 2) := by decide +kernel
theorem dL_law_392 : decode cL_law 392 = .ok (.iconst 3, 1) := by decide +kernel
theorem dL_law_393 : decode cL_law 393 = .ok (.if_icmp .ne 20, 3) := by decide +kernel
theorem dL_law_396 : decode cL_law 396 = .ok (.iload_n 2, 1) := by decide +kernel
theorem dL_law_397 : decode cL_law 397 = .ok (.ifCond .ne 12, 3) := by decide +kernel
theorem dL_law_400 : decode cL_law 400 = .ok (.aload_n 1, 1) := by decide +kernel
theorem dL_law_401 : decode cL_law 401 = .ok (.iload 4, 2) := by decide +kernel
theorem dL_law_403 : decode cL_law 403 = .ok (.invokevirtual 42, 3) := by decide +kernel
theorem dL_law_406 : decode cL_law 406 = .ok (.ifCond .eq 7, 3) := by decide +kernel
theorem dL_law_409 : decode cL_law 409 = .ok (.iconst 1, 1) := by decide +kernel
theorem dL_law_410 : decode cL_law 410 = .ok (.goto 4, 3) := by decide +kernel
theorem dL_law_413 : decode cL_law 413 = .ok (.iconst 0, 1) := by decide +kernel
theorem dL_law_414 : decode cL_law 414 = .ok (.istore_n 2, 1) := by decide +kernel
theorem dL_law_415 : decode cL_law 415 = .ok (.iload_n 2, 1) := by decide +kernel
theorem dL_law_416 : decode cL_law 416 = .ok (.ifCond .eq 12, 3) := by decide +kernel
theorem dL_law_419 : decode cL_law 419 = .ok (.aload_n 1, 1) := by decide +kernel
theorem dL_law_420 : decode cL_law 420 = .ok (.invokevirtual 126, 3) := by decide +kernel
theorem dL_law_423 : decode cL_law 423 = .ok (.ifCond .eq 5, 3) := by decide +kernel
theorem dL_law_426 : decode cL_law 426 = .ok (.iconst 0, 1) := by decide +kernel
theorem dL_law_427 : decode cL_law 427 = .ok (.ireturn, 1) := by decide +kernel
theorem dL_law_428 : decode cL_law 428 = .ok (.iload 5, 2) := by decide +kernel
theorem dL_law_430 : decode cL_law 430 = .ok (.iconst 5, 1) := by decide +kernel
theorem dL_law_431 : decode cL_law 431 = .ok (.invokestatic 9, 3) := by decide +kernel
theorem dL_law_434 : decode cL_law 434 = .ok (.istore 13, 2) := by decide +kernel
theorem dL_law_436 : decode cL_law 436 = .ok (.iload_n 2, 1) := by decide +kernel
theorem dL_law_437 : decode cL_law 437 = .ok (.ifCond .eq 52, 3) := by decide +kernel
theorem dL_law_440 : decode cL_law 440 = .ok (.iload 13, 2) := by decide +kernel
theorem dL_law_442 : decode cL_law 442 = .ok (.sipush 768, 3) := by decide +kernel
theorem dL_law_445 : decode cL_law 445 = .ok (.if_icmp .ge 44, 3) := by decide +kernel
theorem dL_law_448 : decode cL_law 448 = .ok (.aload_n 1, 1) := by decide +kernel
theorem dL_law_449 : decode cL_law 449 = .ok (.iload 13, 2) := by decide +kernel
theorem dL_law_451 : decode cL_law 451 = .ok (.bipush 32, 2) := by decide +kernel
theorem dL_law_453 : decode cL_law 453 = .ok (.irem, 1) := by decide +kernel
theorem dL_law_454 : decode cL_law 454 = .ok (.iload 13, 2) := by decide +kernel
theorem dL_law_456 : decode cL_law 456 = .ok (.bipush 32, 2) := by decide +kernel
theorem dL_law_458 : decode cL_law 458 = .ok (.idiv, 1) := by decide +kernel
theorem dL_law_459 : decode cL_law 459 = .ok (.invokevirtual 129, 3) := by decide +kernel
theorem dL_law_462 : decode cL_law 462 = .ok (.aload_n 1, 1) := by decide +kernel
theorem dL_law_463 : decode cL_law 463 = .ok (.iload 4, 2) := by decide +kernel
theorem dL_law_465 : decode cL_law 465 = .ok (.iload 13, 2) := by decide +kernel
theorem dL_law_467 : decode cL_law 467 = .ok (.bipush 32, 2) := by decide +kernel
theorem dL_law_469 : decode cL_law 469 = .ok (.irem, 1) := by decide +kernel
theorem dL_law_470 : decode cL_law 470 = .ok (.iload 13, 2) := by decide +kernel
theorem dL_law_472 : decode cL_law 472 = .ok (.bipush 32, 2) := by decide +kernel
theorem dL_law_474 : decode cL_law 474 = .ok (.idiv, 1) := by decide +kernel
theorem dL_law_475 : decode cL_law 475 = .ok (.invokevirtual 132, 3) := by decide +kernel
theorem dL_law_478 : decode cL_law 478 = .ok (.if_icmp .eq 5, 3) := by decide +kernel
theorem dL_law_481 : decode cL_law 481 = .ok (.iconst 0, 1) := by decide +kernel
theorem dL_law_482 : decode cL_law 482 = .ok (.ireturn, 1) := by decide +kernel
theorem dL_law_483 : decode cL_law 483 = .ok (.iinc 13 7, 3) := by decide +kernel
theorem dL_law_486 : decode cL_law 486 = .ok (.goto (-50), 3) := by decide +kernel
theorem dL_law_489 : decode cL_law 489 = .ok (.iinc 4 1, 3) := by decide +kernel
theorem dL_law_492 : decode cL_law 492 = .ok (.goto (-477), 3) := by decide +kernel
theorem dL_law_495 : decode cL_law 495 = .ok (.aload_n 1, 1) := by decide +kernel
theorem dL_law_496 : decode cL_law 496 = .ok (.invokevirtual 135, 3) := by decide +kernel
theorem dL_law_499 : decode cL_law 499 = .ok (.iload_n 3, 1) := by decide +kernel
theorem dL_law_500 : decode cL_law 500 = .ok (.if_icmp .ne 25, 3) := by decide +kernel
theorem dL_law_503 : decode cL_law 503 = .ok (.aload_n 1, 1) := by decide +kernel
theorem dL_law_504 : decode cL_law 504 = .ok (.invokevirtual 138, 3) := by decide +kernel
theorem dL_law_507 : decode cL_law 507 = .ok (.bipush 8, 2) := by decide +kernel
theorem dL_law_509 : decode cL_law 509 = .ok (.if_icmp .ne 16, 3) := by decide +kernel
theorem dL_law_512 : decode cL_law 512 = .ok (.aload_n 1, 1) := by decide +kernel
theorem dL_law_513 : decode cL_law 513 = .ok (.invokevirtual 141, 3) := by decide +kernel
theorem dL_law_516 : decode cL_law 516 = .ok (.dconst 0, 1) := by decide +kernel
theorem dL_law_517 : decode cL_law 517 = .ok (.dcmp .l, 1) := by decide +kernel
theorem dL_law_518 : decode cL_law 518 = .ok (.ifCond .lt 7, 3) := by decide +kernel
theorem dL_law_521 : decode cL_law 521 = .ok (.iconst 1, 1) := by decide +kernel
theorem dL_law_522 : decode cL_law 522 = .ok (.goto 4, 3) := by decide +kernel
theorem dL_law_525 : decode cL_law 525 = .ok (.iconst 0, 1) := by decide +kernel
theorem dL_law_526 : decode cL_law 526 = .ok (.ireturn, 1) := by decide +kernel
abbrev vwCl : List vw_C := [(RX0, TX0, 5), (RX1, TX1, 4), (RX2, TX2, 14), (RX3, TX3, 4), (RX4, TX4, 3), (RX5, TX5, 14)]
end
section
/-! BASE: what every contract of this claim stands on -/
-- the nest mates' links, which are no good words
def NST (U : State) : Prop :=
  (va_Nw (.methodLinkNest RX5 21 yX0_init "GreyReel") U ∧ va_Nw (.methodLinkNest RX5 28 yX1_init "GreyReel") U ∧ va_Nw (.methodLinkNest RX5 43 yX2_init "GreyReel") U) ∧
  (va_Nw (.methodLinkNest RX0 11 yX3_init "GreyReel") U ∧ va_Nw (.methodLinkNest RX0 111 yX5_isWithin "GreyReel") U ∧ va_Nw (.methodLinkNest RX0 69 yX5_isFirstOfBand "GreyReel") U) ∧
  (va_Nw (.methodLinkNest RX1 104 yX5_folded "GreyReel") U ∧ va_Nw (.methodLinkNest RX1 25 yX5_onRow "GreyReel") U) ∧
  va_Nw (.methodLinkNest RX2 67 yX5_isFirstOfBand "GreyReel") U ∧
  (va_Nw (.methodLinkNest RX3 24 yX5_onRow "GreyReel") U ∧ va_Nw (.methodLinkNest RX3 49 yX5_firstPointOf "GreyReel") U ∧ va_Nw (.methodLinkNest RX3 58 yX5_isFirstOfBand "GreyReel") U ∧ va_Nw (.methodLinkNest RX3 68 yX5_clip "GreyReel") U) ∧
  va_Nw (.methodLinkNest RX4 11 yX3_init "GreyReel") U
theorem NST.same {u U : State} (h : u.vm = U.vm) (n : NST u) : NST U := by
  obtain ⟨⟨a1, a2, a3⟩, ⟨b1, b2, b3⟩, ⟨c1, c2⟩, d1, ⟨e1, e2, e3, e4⟩, f1⟩ := n
  exact ⟨⟨va_Nw.same rfl h a1, va_Nw.same rfl h a2, va_Nw.same rfl h a3⟩, ⟨va_Nw.same rfl h b1, va_Nw.same rfl h b2, va_Nw.same rfl h b3⟩, ⟨va_Nw.same rfl h c1, va_Nw.same rfl h c2⟩, va_Nw.same rfl h d1, ⟨va_Nw.same rfl h e1, va_Nw.same rfl h e2, va_Nw.same rfl h e3, va_Nw.same rfl h e4⟩, va_Nw.same rfl h f1⟩
theorem NST.warm {s U : State} (h : s.WarmedH U.vm) (n : NST s) : NST U := by
  obtain ⟨⟨a1, a2, a3⟩, ⟨b1, b2, b3⟩, ⟨c1, c2⟩, d1, ⟨e1, e2, e3, e4⟩, f1⟩ := n
  exact ⟨⟨va_Nw.warmM h a1, va_Nw.warmM h a2, va_Nw.warmM h a3⟩, ⟨va_Nw.warmM h b1, va_Nw.warmM h b2, va_Nw.warmM h b3⟩, ⟨va_Nw.warmM h c1, va_Nw.warmM h c2⟩, va_Nw.warmM h d1, ⟨va_Nw.warmM h e1, va_Nw.warmM h e2, va_Nw.warmM h e3, va_Nw.warmM h e4⟩, va_Nw.warmM h f1⟩
-- the zigzag order of the levels, a static array
def ordN (k : Nat) : Nat := [0, 1, 4, 8, 5, 2, 3, 6, 9, 12, 13, 10, 7, 11, 14, 15].getD k 0
def ordI (k : Nat) : Value := .int (nI (ordN k))
abbrev dyn (N0 : Nat) : Nat → Prop := fun q => N0 ≤ q
abbrev TYS (cI cZ cP : ClassId) : List (ClassId × FieldType) := [(cI, .int), (cZ, .boolean), (cP, .object "GreyReel$Picture")]
/-- the surroundings: classes, nest mates, the static array; all own cells lie from N0 on -/
def EV (D : va_G) (cI cZ cP : ClassId) (N0 tO : Nat) (U : State) (H : Heap) : Prop :=
  va_K D vwCl (TYS cI cZ cP) U ∧ NST U ∧ N0 ≤ H.size ∧ va_Z "GreyReel$Studio" "ORDER" "[I" (.ref tO) (dyn N0) U H ∧ va_T .int tO 16 ordI (dyn N0) U H
theorem EV.calling {D : va_G} {cI cZ cP : ClassId} {N0 tO : Nat} {U : State} {g : JFrame} {mk : MethodId} {a : Array Value} {H : Heap} (h : EV D cI cZ cP N0 tO U H) : EV D cI cZ cP N0 tO (U.calling g mk a) H :=
  ⟨va_K.moved (u := U) (U := U.calling g mk a) (Vm.Alike.refl U.vm) h.1, NST.same (u := U) rfl h.2.1, h.2.2.1, va_Z.moved (u := U) (U := U.calling g mk a) (Vm.Alike.refl U.vm) h.2.2.2.1, va_T.moved (u := U) (U := U.calling g mk a) (Vm.Alike.refl U.vm) h.2.2.2.2⟩
theorem EV.warm {D : va_G} {cI cZ cP : ClassId} {N0 tO : Nat} {s U : State} {H : Heap} (hW : s.WarmedH U.vm) (h : EV D cI cZ cP N0 tO s H) : EV D cI cZ cP N0 tO U H :=
  ⟨va_K.moved hW.alike h.1, NST.warm hW h.2.1, h.2.2.1, va_Z.moved hW.alike h.2.2.2.1, va_T.moved hW.alike h.2.2.2.2⟩
theorem EV.kept {D : va_G} {cI cZ cP : ClassId} {N0 tO : Nat} {U : State} {H H1 : Heap} (h : EV D cI cZ cP N0 tO U H) (hz : H.size ≤ H1.size) (hq : ∀ q : Nat, q < H.size → ¬ N0 ≤ q → H1[q]? = H[q]?) : EV D cI cZ cP N0 tO U H1 :=
  ⟨h.1, h.2.1, Nat.le_trans h.2.2.1 hz, va_Z.kept h.2.2.2.1 hq, va_T.kept h.2.2.2.2 hq⟩
/-- the surroundings persist along a method that writes among its own cells alone -/
theorem EV.S {D : va_G} {cI cZ cP : ClassId} {N0 tO : Nat} {U : State} {H0 H : Heap} {A : Nat → Prop} {locs : List Loc} (h : EV D cI cZ cP N0 tO U H0) (hS : va_S A H0 H locs) (hA : ∀ q, A q → N0 ≤ q) : EV D cI cZ cP N0 tO U H :=
  h.kept hS.1 (fun q h1 h2 => hS.2.1 q h1 (fun z => h2 (hA q z)))
-- addresses: apart, and own
def AD (N0 : Nat) (as : List Nat) : Prop := as.Nodup ∧ ∀ a ∈ as, N0 ≤ a
theorem AD.D {N0 : Nat} {as : List Nat} (h : AD N0 as) {ws : va_W} (hw : ws.map (fun q => q.1) = as) : va_D (dyn N0) ws := by
  subst hw
  refine ⟨fun i j p q hi hj hpq => ?_, fun k q hk => h.2 _ (List.mem_map_of_mem (List.mem_of_getElem? hk))⟩
  have e1 : (ws.map (fun q => q.1))[i]? = some p.1 := by rw [List.getElem?_map, hi]; rfl
  have e2 : (ws.map (fun q => q.1))[j]? = some p.1 := by rw [List.getElem?_map, hj, hpq]; rfl
  have li := (List.getElem?_eq_some_iff.mp e1).1
  have lj := (List.getElem?_eq_some_iff.mp e2).1
  exact (List.getElem?_inj li h.1).mp (e1.trans e2.symm)
theorem AD.sub {N0 : Nat} {as bs : List Nat} (h : AD N0 as) (is : List Nat) (hn : va_nd is = true) (hs : is.map (fun i => as[i]?) = bs.map some) : AD N0 bs := by
  have key : ∀ (k : Nat) (q : Nat), bs[k]? = some q → ∃ i, is[k]? = some i ∧ as[i]? = some q := by
    intro k q hk
    have h1 : (is.map (fun i => as[i]?))[k]? = some (some q) := by rw [hs, List.getElem?_map, hk]; rfl
    rw [List.getElem?_map] at h1
    cases hi : is[k]? with
    | none => rw [hi] at h1; cases h1
    | some i => rw [hi] at h1; exact ⟨i, rfl, Option.some.inj h1⟩
  refine ⟨List.pairwise_iff_getElem.mpr (fun i j hi hj hij e2 => ?_), fun a ha => ?_⟩
  · obtain ⟨a, h1, h2⟩ := key i _ (List.getElem?_eq_getElem hi)
    obtain ⟨b, h3, h4⟩ := key j _ (List.getElem?_eq_getElem hj)
    rw [e2] at h2
    have la := (List.getElem?_eq_some_iff.mp h2).1
    have hab : a = b := (List.getElem?_inj la h.1).mp (h2.trans h4.symm)
    subst hab
    have := va_nd_inj is hn i j a h1 h3
    omega
  · obtain ⟨k, hk⟩ := List.getElem?_of_mem ha
    obtain ⟨i, -, h2⟩ := key k a hk
    exact h.2 a (List.mem_of_getElem? h2)
-- a world with several cells set
def setAll (ws : va_W) : List Nat → va_W → va_W
  | i :: is, x :: xs => setAll (ws.set i x) is xs
  | _, _ => ws
theorem setAll_map : ∀ (is : List Nat) (xs : va_W) (ws : va_W), is.map (fun i => (ws[i]?).map (fun q => q.1)) = xs.map (fun x => some x.1) → (setAll ws is xs).map (fun q => q.1) = ws.map (fun q => q.1)
  | [], [], ws, _ => rfl
  | [], _ :: _, ws, h => by simp at h
  | _ :: _, [], ws, h => by simp at h
  | i :: is, x :: xs, ws, h => by
    simp only [List.map_cons, List.cons.injEq] at h
    obtain ⟨h1, h2⟩ := h
    have e : (ws.set i x).map (fun q => q.1) = ws.map (fun q => q.1) := by
      apply List.ext_getElem?
      intro k
      rw [List.getElem?_map, List.getElem?_map]
      by_cases hk : k = i
      · subst hk
        have hl : k < ws.length := by
          rcases Nat.lt_or_ge k ws.length with q | q
          · exact q
          · rw [List.getElem?_eq_none q] at h1; cases h1
        rw [List.getElem?_set_self hl, h1]
        rfl
      · rw [List.getElem?_set_ne (Ne.symm hk)]
    have e2 : is.map (fun j => ((ws.set i x)[j]?).map (fun q => q.1)) = xs.map (fun x => some x.1) := by
      rw [← h2]
      apply List.map_congr_left
      intro j _
      have := congrArg (fun l : List Nat => l[j]?) e
      simpa [List.getElem?_map] using this
    exact (setAll_map is xs (ws.set i x) e2).trans e
theorem setAll_get : ∀ (is : List Nat) (xs : va_W) (ws : va_W) (k : Nat) (q : Nat × va_E), (setAll ws is xs)[k]? = some q → q ∈ xs ∨ (k ∉ is.take xs.length ∧ ws[k]? = some q)
  | [], xs, ws, k, q, h => Or.inr ⟨by simp, by simpa [setAll] using h⟩
  | _ :: _, [], ws, k, q, h => Or.inr ⟨by simp, by simpa [setAll] using h⟩
  | i :: is, x :: xs, ws, k, q, h => by
    rcases setAll_get is xs (ws.set i x) k q h with h1 | ⟨h1, h2⟩
    · exact Or.inl (List.mem_cons_of_mem _ h1)
    · by_cases hk : k = i
      · subst hk
        rcases Nat.lt_or_ge k ws.length with hl | hl
        · rw [List.getElem?_set_self hl] at h2
          cases h2
          exact Or.inl List.mem_cons_self
        · rw [List.getElem?_eq_none (by rw [List.length_set]; exact hl)] at h2
          cases h2
      · rw [List.getElem?_set_ne (Ne.symm hk)] at h2
        refine Or.inr ⟨?_, h2⟩
        rw [List.length_cons, List.take_succ_cons]
        exact fun z => (List.mem_cons.mp z).elim hk h1
/-- behind a call: the cells that it wrote anew, all others as they were -/
theorem va_back {D : va_G} {cl : List vw_C} {ws wn : va_W} {H H1 : Heap} {N0 : Nat} {as L : List Nat} (hP : va_P D cl ws H) (hN : AD N0 as) (hw : ws.map (fun q => q.1) = as) (is : List Nat) (hC : is.map (fun i => (ws[i]?).map (fun q => q.1)) = wn.map (fun x => some x.1)) (hL : wn.map (fun x => x.1) = L) (hk : ∀ q : Nat, q < H.size → q ∉ L → H1[q]? = H[q]?) (hPn : va_P D cl wn H1) : va_P D cl (setAll ws is wn) H1 := by
  intro k q hq
  rcases setAll_get is wn ws k q hq with h | ⟨h1, h2⟩
  · obtain ⟨j, hj⟩ := List.getElem?_of_mem h
    exact hPn j q hj
  · refine (hP k q h2).kept (hk q.1 (hP k q h2).lt (fun z => h1 ?_))
    rw [← hL] at z
    obtain ⟨x, hx, hxq⟩ := List.mem_map.mp z
    obtain ⟨j, hj⟩ := List.getElem?_of_mem hx
    have e1 : (is.map (fun i => (ws[i]?).map (fun q => q.1)))[j]? = some (some x.1) := by rw [hC, List.getElem?_map, hj]; rfl
    rw [List.getElem?_map] at e1
    cases hi : is[j]? with
    | none => rw [hi] at e1; cases e1
    | some i =>
      rw [hi] at e1
      have e2 : (ws[i]?).map (fun q => q.1) = some x.1 := Option.some.inj e1
      cases hwi : ws[i]? with
      | none => rw [hwi] at e2; cases e2
      | some y =>
        rw [hwi] at e2
        have e3 : y.1 = x.1 := Option.some.inj e2
        have hki : k = i := (hN.D hw).1 k i q y h2 hwi (hxq.symm.trans e3.symm)
        subst hki
        have hjl := (List.getElem?_eq_some_iff.mp hj).1
        refine List.mem_of_getElem? (i := j) ?_
        rw [List.getElem?_take]
        rw [if_pos hjl]
        exact hi
theorem AD.in {N0 : Nat} {as L : List Nat} (h : AD N0 as) (is : List Nat) (hs : is.map (fun i => as[i]?) = L.map some) : ∀ q ∈ L, N0 ≤ q := by
  intro q hq
  obtain ⟨k, hk⟩ := List.getElem?_of_mem hq
  have h1 : (is.map (fun i => as[i]?))[k]? = some (some q) := by rw [hs, List.getElem?_map, hk]; rfl
  rw [List.getElem?_map] at h1
  cases hi : is[k]? with
  | none => rw [hi] at h1; cases h1
  | some i => rw [hi] at h1; exact h.2 q (List.mem_of_getElem? (Option.some.inj h1))
-- two arrays of one content, as far as they go
theorem va_cong {D : va_G} {cl : List vw_C} {a n : Nat} {cA : ClassId} {f g : Nat → Int32} {H : Heap} (h : ∀ k, k < n → f k = g k) (hf : va_at D cl (a, .inl (cA, n, .inl f)) H) : va_at D cl (a, .inl (cA, n, .inl g)) H := by
  have e : vp_cell cA (n, .inl f) = vp_cell cA (n, .inl g) := by
    rw [vp_cell_i, vp_cell_i]
    unfold arrV
    congr 2
    funext j
    exact congrArg Value.int (h j.val j.isLt)
  show H[a]? = some (vp_cell cA (n, .inl g))
  rw [← e]
  exact hf
theorem va_P.cong {D : va_G} {cl : List vw_C} {ws : va_W} {H : Heap} (hP : va_P D cl ws H) (q0 : Nat) {a n : Nat} {cA : ClassId} {f : Nat → Int32} (g : Nat → Int32) (ha : ws[q0]? = some (a, .inl (cA, n, .inl f))) (h : ∀ k, k < n → f k = g k) : va_P D cl (ws.set q0 (a, .inl (cA, n, .inl g))) H := by
  intro k q hq
  by_cases hk : k = q0
  · subst hk
    rw [List.getElem?_set_self (List.getElem?_eq_some_iff.mp ha).1] at hq
    cases hq
    exact va_cong h (hP k _ ha)
  · rw [List.getElem?_set_ne (Ne.symm hk)] at hq
    exact hP k q hq
-- the first n places of g, the others of f
def fillTo (g f : Nat → Int32) (n : Nat) : Nat → Int32 := fun k => if k < n then g k else f k
theorem fillTo_0 (g f : Nat → Int32) : fillTo g f 0 = f := by funext k; simp [fillTo]
theorem fillTo_s (g f : Nat → Int32) (n : Nat) {x : Int32} (h : x = g n) : upd (fillTo g f n) n x = fillTo g f (n + 1) := by
  subst h
  funext k
  unfold upd fillTo
  by_cases h1 : k = n
  · subst h1; simp
  · rw [if_neg h1]
    by_cases h2 : k < n
    · rw [if_pos h2, if_pos (by omega)]
    · rw [if_neg h2, if_neg (by omega)]
theorem fillTo_at (g f : Nat → Int32) {n k : Nat} (h : k < n) : fillTo g f n k = g k := if_pos h
-- rows over arrays, their places natural numbers
section ROWS
variable {p : Program} {l : Launch} {e : Env} {R : Room} {s : State} {m : MethodId} {args : Array Value} {below : List Frame} {meth : Method} {c : Code} {H : Heap} {locs : List Loc} {cells slots : Nat} {Q : State → Prop}
variable {cc : ByteArray} {pc : Nat} {ls : Array Slot} {rest : List Value} {D : va_G} {cl : List vw_C} {A : Nat → Prop} {a : Nat} {tys : List (ClassId × FieldType)} {ws : va_W} {H0 : Heap}
theorem lv_topr {x y : Int32} (h : x = y) (k : W p l e R s m args below meth c H locs cells slots Q (F0 m pc ls (.int y :: rest))) : W p l e R s m args below meth c H locs cells slots Q (F0 m pc ls (.int x :: rest)) := by rw [h]; exact k
theorem lv_topr2 {x y : Int32} {v : Value} (h : x = y) (k : W p l e R s m args below meth c H locs cells slots Q (F0 m pc ls (v :: .int y :: rest))) : W p l e R s m args below meth c H locs cells slots Q (F0 m pc ls (v :: .int x :: rest)) := by rw [h]; exact k
theorem wa_iald (hexec : p.tables.exec = Jvm.exec) (hb : c.code = cc) (hK : va_K D cl tys s) (hP : va_P D cl ws H) (q0 t0 : Nat) {cA : ClassId} {n : Nat} {f : Nat → Int32} (ha : ws[q0]? = some (a, .inl (cA, n, .inl f))) (ht : tys[t0]? = some (cA, .int)) {i : Nat} (hi : i < n) (hn : n < 2 ^ 31) (hdg : decode cc pc = .ok (.iaload, 1))
    (kk : W p l e R s m args below meth c H locs cells slots Q (F0 m (pc + 1) ls (.int (f i) :: rest))) : W p l e R s m args below meth c H locs cells slots Q (F0 m pc ls (.int (nI i) :: .ref a :: rest)) :=
  va_iald hexec hb hK hP q0 t0 ha ht (vp_in_nI hi hn) hdg (by rw [nI_clamp (Nat.lt_trans hi hn)]; exact kk)
theorem wa_zald (hexec : p.tables.exec = Jvm.exec) (hb : c.code = cc) (hK : va_K D cl tys s) (hP : va_P D cl ws H) (q0 t0 : Nat) {cA : ClassId} {n : Nat} {f : Nat → Int32} (ha : ws[q0]? = some (a, .inl (cA, n, .inl f))) (ht : tys[t0]? = some (cA, .boolean)) {i : Nat} (hi : i < n) (hn : n < 2 ^ 31) (hdg : decode cc pc = .ok (.baload, 1))
    (kk : W p l e R s m args below meth c H locs cells slots Q (F0 m (pc + 1) ls (.int (f i) :: rest))) : W p l e R s m args below meth c H locs cells slots Q (F0 m pc ls (.int (nI i) :: .ref a :: rest)) :=
  va_zald hexec hb hK hP q0 t0 ha ht (vp_in_nI hi hn) hdg (by rw [nI_clamp (Nat.lt_trans hi hn)]; exact kk)
theorem wa_iast (hexec : p.tables.exec = Jvm.exec) (hb : c.code = cc) (hK : va_K D cl tys s) (hP : va_P D cl ws H) {B : Nat → Prop} (hD : va_D B ws) (hS : va_S A H0 H locs) (hA : A a) (q0 t0 : Nat) {cA : ClassId} {n : Nat} {f : Nat → Int32} (ha : ws[q0]? = some (a, .inl (cA, n, .inl f))) (ht : tys[t0]? = some (cA, .int)) {i : Nat} {x : Int32} (hi : i < n) (hn : n < 2 ^ 31) (hdg : decode cc pc = .ok (.iastore, 1))
    (kk : ∀ (H1 : Heap) (locs1 : List Loc), va_P D cl (ws.set q0 (a, .inl (cA, n, .inl (upd f i x)))) H1 → va_S A H0 H1 locs1 → W p l e R s m args below meth c H1 locs1 cells slots Q (F0 m (pc + 1) ls rest)) : W p l e R s m args below meth c H locs cells slots Q (F0 m pc ls (.int x :: .int (nI i) :: .ref a :: rest)) := by
  have hin : vp_in (nI i) n := vp_in_nI hi hn
  have hcl : (nI i).toNatClampNeg = i := nI_clamp (Nat.lt_trans hi hn)
  refine W.iast hexec hb (hP q0 _ ha) ((hK.2 t0 _ ht).1 n (fun j => .int (f j))) (fun q => by cases q) (by show ¬ (nI i < 0 ∨ (arrV _ _ _).slots.size ≤ _); rw [arrV_size]; exact hin) rfl rfl hdg fun H1 e z oq => ?_
  refine kk H1 _ (hP.set hD ha ?_ oq) (hS.put z oq hA)
  show H1[a]? = some (vp_cell _ _)
  rw [e, vp_cell_i, vp_cell_i, arrV_store, hcl]
  congr 2
  funext q
  by_cases hq : q = i
  · subst hq
    simp [updV, upd]
  · simp [updV, upd, hq]
theorem wa_zast (hexec : p.tables.exec = Jvm.exec) (hb : c.code = cc) (hK : va_K D cl tys s) (hP : va_P D cl ws H) {B : Nat → Prop} (hD : va_D B ws) (hS : va_S A H0 H locs) (hA : A a) (q0 t0 : Nat) {cA : ClassId} {n : Nat} {f : Nat → Int32} (ha : ws[q0]? = some (a, .inl (cA, n, .inl f))) (ht : tys[t0]? = some (cA, .boolean)) {i : Nat} {x : Int32} (hi : i < n) (hn : n < 2 ^ 31) (hdg : decode cc pc = .ok (.bastore, 1))
    (kk : ∀ (H1 : Heap) (locs1 : List Loc), va_P D cl (ws.set q0 (a, .inl (cA, n, .inl (upd f i (vp_nar .boolean x))))) H1 → va_S A H0 H1 locs1 → W p l e R s m args below meth c H1 locs1 cells slots Q (F0 m (pc + 1) ls rest)) : W p l e R s m args below meth c H locs cells slots Q (F0 m pc ls (.int x :: .int (nI i) :: .ref a :: rest)) := by
  have hin : vp_in (nI i) n := vp_in_nI hi hn
  have hcl : (nI i).toNatClampNeg = i := nI_clamp (Nat.lt_trans hi hn)
  refine W.zast hexec hb (hP q0 _ ha) ((hK.2 t0 _ ht).1 n (fun j => .int (f j))) (fun q => by cases q) (by show ¬ (nI i < 0 ∨ (arrV _ _ _).slots.size ≤ _); rw [arrV_size]; exact hin) rfl rfl hdg fun H1 e z oq => ?_
  refine kk H1 _ (hP.set hD ha ?_ oq) (hS.put z oq hA)
  show H1[a]? = some (vp_cell _ _)
  rw [e, vp_cell_i, vp_cell_i, arrV_store, hcl]
  congr 2
  funext q
  by_cases hq : q = i
  · subst hq
    simp [updV, upd, vp_nar]
    try rfl
  · simp [updV, upd, hq]
/-- putfield: va_put, where the cells need not all be among those that the method may write -/
theorem wa_put (hexec : p.tables.exec = Jvm.exec) (hb : c.code = cc) {own ref C : String} {T : u_T} {N ci index : Nat} {Ts : List Cond} (hts : ∀ w ∈ Ts, w.before args s = true) (hin : ∀ w ∈ u_ws C T N, w ∈ Ts) (ty0 : Nat → FieldType) (hty : ∀ k, k < N → parseFieldDescriptor (T k).2.2.1 = some (ty0 k)) (hnm : ∀ a, a < N → ∀ b, b < N → a ≠ b → (T a).2.1 ≠ (T b).2.1) (hown : s.vm.findClass own = some m.cls) (hK : va_K D cl tys s) (hP : va_P D cl ws H) {B : Nat → Prop} (hD : va_D B ws) (hS0 : va_S A H0 H locs) (hA : A a) (q0 : Nat) {fs : List Value} (he : ws[q0]? = some (a, .inr (ci, fs))) (hc : cl[ci]? = some (C, T, N)) (k : Nat) (hk : k < N) (hlink : (Cond.fieldLink own index ref (T k).2.1 (T k).2.2.1).before args s = true) (hsame : ∀ x, s.fieldFound? (T k).1 (T k).2.1 (T k).2.2.1 = some x → s.fieldFound? ref (T k).2.1 (T k).2.2.1 = some x) (hfin : (T k).2.2.2 = false) {ty : FieldType} {v : Value} (hd : parseFieldDescriptor (T k).2.2.1 = some ty) (hn : narrow ty v = v) (hfit : fits ty v = true) (hl : k < fs.length)
    (hdg : decode cc pc = .ok (.putfield index, 3)) (kk : ∀ (H1 : Heap) (locs1 : List Loc), va_P D cl (ws.set q0 (a, .inr (ci, fs.set k v))) H1 → va_S A H0 H1 locs1 → W p l e R s m args below meth c H1 locs1 cells slots Q (F0 m (pc + 3) ls rest)) : W p l e R s m args below meth c H locs cells slots Q (F0 m pc ls (v :: .ref a :: rest)) := by
  have hap := va_apart (own := own) hts hin ty0 hty hnm hK hc
  obtain ⟨r, h1, cell, q1, q2, q3, q4⟩ := hP q0 _ he
  have hr : r = (C, T, N) := Option.some.inj (h1.symm.trans hc)
  subst hr
  obtain ⟨hS, hfc, kC, hkC, hkind⟩ := hK.1 ci _ hc
  obtain ⟨cf, kf, fi, f, hi, hsl⟩ := hS k hk
  have hlay := hts _ (hin _ (u_in_lay hk))
  unfold u_lay at hlay
  rw [if_neg (by rw [hfin]; decide)] at hlay
  have hst := (u_facts hfc hkC (u_lays hts hin hk) hi).1
  have h6 := u_store hfc hkC hkind hlay hi hd hn hfit
  refine W.putK hexec hb (f := f) ⟨hown, hlink, ⟨_, _, _, hsame _ hi⟩, hst⟩ (by rw [q2]; exact h6) q1 q3 (by rw [hsl]; exact k2_hasslot (q4 k hk)) rfl rfl hdg fun H' e1 e2 e3 => ?_
  rw [hsl] at e1 ⊢
  exact kk H' _ (hP.set hD he ⟨_, hc, t_OB.to (V := updV (vp_V fs) k v) ⟨_, e1, q2, q3, t_set q4 hap hk v⟩ (fun j _ => vp_updV_set hl v j)⟩ e3) (hS0.put e2 e3 hA)
end ROWS
-- contracts: what is given, in front of a method; what a reader and a writer leave
def Gv (D : va_G) (cI cZ cP : ClassId) (N0 tO : Nat) (av : List Value) (B : Heap → Prop) : Array Value → State → Prop := va_Pc av (fun U => EV D cI cZ cP N0 tO U U.heap ∧ B U.heap)
theorem Gv.blind {D : va_G} {cI cZ cP : ClassId} {N0 tO : Nat} {av : List Value} {B : Heap → Prop} : FrameBlind (Gv D cI cZ cP N0 tO av B) := fun a U g mk q => ⟨q.1, EV.calling q.2.1, q.2.2⟩
theorem Gv.of {D : va_G} {cI cZ cP : ClassId} {N0 tO : Nat} {av : List Value} {B : Heap → Prop} {s : State} {H : Heap} (hE : EV D cI cZ cP N0 tO s H) (hB : B H) : ∀ U : State, U.heap = H → s.WarmedH U.vm → Gv D cI cZ cP N0 tO av B av.toArray U := by
  intro U hU hW
  subst hU
  exact ⟨rfl, EV.warm hW hE, hB⟩
abbrev inL (L : List Nat) : Nat → Prop := fun q => q ∈ L
abbrev inLN (L : List Nat) (sz : Nat) : Nat → Prop := fun q => q ∈ L ∨ sz ≤ q
end
section
def absI (x : Int32) : Int32 := if 0 ≤ x then x else 0 - x
def maxI (x y : Int32) : Int32 := if x < y then y else x
def minI (x y : Int32) : Int32 := if y < x then y else x
def isWithinI (x a b : Int32) : Int32 := if x < a then 0 else if b < x then 0 else 1
def clipI (x : Int32) : Int32 := if 0 ≤ x then (if x ≤ 255 then x else 255) else 0
def isFB (b : Nat) : Int32 := if b % 4 = 0 then 1 else 0
def foldedI (x : Int32) : Int32 := if x ≤ 0 then -2 * x else 2 * x - 1
def distF (f g : Nat → Int32) : Nat → Int32
  | 0 => 0
  | n + 1 => distF f g n + absI (f n - g n)
def dgF (d : Int64) (f : Nat → Int32) : Nat → Int64
  | 0 => d
  | n + 1 => dgF d f n * 31 + (f n).toInt64
theorem isFB_t {r : Int32} {b : Nat} (h : r = isFB b) (c : ¬ r = 0) : b % 4 = 0 := by
  subst h; unfold isFB at c; split at c
  · assumption
  · exact absurd rfl c
theorem isFB_f {r : Int32} {b : Nat} (h : r = isFB b) (c : r = 0) : ¬ b % 4 = 0 := by
  subst h; unfold isFB at c; split at c
  · exact absurd c (by decide)
  · assumption
theorem inL_sub {L L' : List Nat} (is : List Nat) (h : is.map (fun i => L[i]?) = L'.map some) : ∀ q, inL L' q → inL L q := by
  intro q hq
  obtain ⟨k, hk⟩ := List.getElem?_of_mem (show q ∈ L' from hq)
  have h1 : (is.map (fun i => L[i]?))[k]? = some (some q) := by rw [h, List.getElem?_map, hk]; rfl
  rw [List.getElem?_map] at h1
  cases hi : is[k]? with
  | none => rw [hi] at h1; cases h1
  | some i => rw [hi] at h1; exact List.mem_of_getElem? (Option.some.inj h1)
set_option maxHeartbeats 4000000 in
set_option maxRecDepth 100000 in
theorem C_X5_isWithin (l : Launch) (dC : Nat → ClassId) (dI : Nat → Nat → Nat) (cI cZ cP : ClassId) (N0 tO : Nat) (x a b : Int32)  : Met l yX5_isWithin wsX5_isWithin ({ frames := 0, cells := 0, slots := 0, locals := 0 } : Room) (Gv (dC, dI) cI cZ cP N0 tO [.int x, .int a, .int b] (fun H => True)) (vp_Si (fun r : Int32 => r = isWithinI x a b)) 0 0 (fun _ => False) := by
  refine Met.ofW (cc := cX5_isWithin) (maxL := 3) (ret := (some .boolean)) (by decide) rfl ?_
  intro p e s m args below meth c s₁ B hml hv
  obtain ⟨rfl, hE, hP⟩ := hv
  have hx := B.exec
  have hb := B.bytes
  have hr := B.returns
  have hts := atoms_spec (ws := wsX5_isWithin) B.pre
  have hown : s.vm.findClass RX5 = some m.cls := findClass_of_methodNamed B.named
  have hlocks := B.notSynchronized
  have hK := hE.1
  have hNS := hE.2.1
  have hl := lv_entry ([.int x, .int a, .int b]) (n := 3) (Nat.le_of_ble_eq_true rfl)
  rw [lg_entry_eq]
  generalize (lg_sl ([.int x, .int a, .int b]) ++ List.replicate (3 - (lg_sl ([.int x, .int a, .int b])).length) Slot.unset).toArray = ls at hl ⊢
  have hl : lv_has ls 3 [(0, .int x), (1, .int a), (2, .int b)] := hl
  refine lv_iload_n hx hb dX5_isWithin_0 rfl (lv_at hl 0 rfl) ?_
  refine lv_iload_n hx hb dX5_isWithin_1 rfl (lv_at hl 1 rfl) ?_
  refine lv_icmp_lt (tgt := 14) hx hb dX5_isWithin_2 (by decide) (fun c2 => ?_) (fun c2 => ?_)
  · skip
    refine lv_iconst (v := 0) hx hb dX5_isWithin_14 (by decide) ?_
    exact W.zret (v := 0) hx hb hr rfl (fun t ht hW => ⟨0, rfl, (by rw [isWithinI, if_pos c2] <;> rfl), ht⟩) (fun _ h => by cases h) dX5_isWithin_15
  · skip
    refine lv_iload_n hx hb dX5_isWithin_5 rfl (lv_at hl 0 rfl) ?_
    refine lv_iload_n hx hb dX5_isWithin_6 rfl (lv_at hl 2 rfl) ?_
    refine lv_icmp_gt (tgt := 14) hx hb dX5_isWithin_7 (by decide) (fun c7 => ?_) (fun c7 => ?_)
    · skip
      refine lv_iconst (v := 0) hx hb dX5_isWithin_14 (by decide) ?_
      exact W.zret (v := 0) hx hb hr rfl (fun t ht hW => ⟨0, rfl, (by rw [isWithinI, if_neg c2, if_pos c7] <;> rfl), ht⟩) (fun _ h => by cases h) dX5_isWithin_15
    · skip
      refine lv_iconst (v := 1) hx hb dX5_isWithin_10 (by decide) ?_
      refine lv_goto (tgt := 15) hx hb dX5_isWithin_11 (by decide) ?_
      exact W.zret (v := 1) hx hb hr rfl (fun t ht hW => ⟨1, rfl, (by rw [isWithinI, if_neg c2, if_neg c7] <;> rfl), ht⟩) (fun _ h => by cases h) dX5_isWithin_15
set_option maxHeartbeats 4000000 in
set_option maxRecDepth 100000 in
theorem C_X5_clip (l : Launch) (dC : Nat → ClassId) (dI : Nat → Nat → Nat) (cI cZ cP : ClassId) (N0 tO : Nat) (x : Int32)  : Met l yX5_clip wsX5_clip ({ frames := 0, cells := 0, slots := 0, locals := 0 } : Room) (Gv (dC, dI) cI cZ cP N0 tO [.int x] (fun H => True)) (vp_Si (fun r : Int32 => r = clipI x)) 0 0 (fun _ => False) := by
  refine Met.ofW (cc := cX5_clip) (maxL := 1) (ret := (some .int)) (by decide) rfl ?_
  intro p e s m args below meth c s₁ B hml hv
  obtain ⟨rfl, hE, hP⟩ := hv
  have hx := B.exec
  have hb := B.bytes
  have hr := B.returns
  have hts := atoms_spec (ws := wsX5_clip) B.pre
  have hown : s.vm.findClass RX5 = some m.cls := findClass_of_methodNamed B.named
  have hlocks := B.notSynchronized
  have hK := hE.1
  have hNS := hE.2.1
  have hl := lv_entry ([.int x]) (n := 1) (Nat.le_of_ble_eq_true rfl)
  rw [lg_entry_eq]
  generalize (lg_sl ([.int x]) ++ List.replicate (1 - (lg_sl ([.int x])).length) Slot.unset).toArray = ls at hl ⊢
  have hl : lv_has ls 1 [(0, .int x)] := hl
  refine lv_iload_n hx hb dX5_clip_0 rfl (lv_at hl 0 rfl) ?_
  refine lv_if_ge (tgt := 8) hx hb dX5_clip_1 (by decide) (fun c1 => ?_) (fun c1 => ?_)
  · skip
    refine lv_iload_n hx hb dX5_clip_8 rfl (lv_at hl 0 rfl) ?_
    refine lv_sipush (v := 255) hx hb dX5_clip_9 (by decide +kernel) ?_
    refine lv_icmp_le (tgt := 21) hx hb dX5_clip_12 (by decide) (fun c12 => ?_) (fun c12 => ?_)
    · skip
      refine lv_iload_n hx hb dX5_clip_21 rfl (lv_at hl 0 rfl) ?_
      exact W.iret (v := x) hx hb hr (fun t ht hW => ⟨x, rfl, (by rw [clipI, if_pos c1, if_pos c12] <;> rfl), ht⟩) (fun _ h => by cases h) dX5_clip_22
    · skip
      refine lv_sipush (v := 255) hx hb dX5_clip_15 (by decide +kernel) ?_
      refine lv_goto (tgt := 22) hx hb dX5_clip_18 (by decide) ?_
      exact W.iret (v := 255) hx hb hr (fun t ht hW => ⟨255, rfl, (by rw [clipI, if_pos c1, if_neg c12] <;> rfl), ht⟩) (fun _ h => by cases h) dX5_clip_22
  · skip
    refine lv_iconst (v := 0) hx hb dX5_clip_4 (by decide) ?_
    refine lv_goto (tgt := 22) hx hb dX5_clip_5 (by decide) ?_
    exact W.iret (v := 0) hx hb hr (fun t ht hW => ⟨0, rfl, (by rw [clipI, if_neg c1] <;> rfl), ht⟩) (fun _ h => by cases h) dX5_clip_22
set_option maxHeartbeats 4000000 in
set_option maxRecDepth 100000 in
theorem C_X5_onRow (l : Launch) (dC : Nat → ClassId) (dI : Nat → Nat → Nat) (cI cZ cP : ClassId) (N0 tO : Nat) (x n : Int32)  : Met l yX5_onRow wsX5_onRow ({ frames := 1, cells := 0, slots := 0, locals := 32 } : Room) (Gv (dC, dI) cI cZ cP N0 tO [.int x, .int n] (fun H => True)) (vp_Si (fun r : Int32 => r = maxI 0 (minI x (n - 1)))) 0 0 (fun _ => False) := by
  refine Met.ofW (cc := cX5_onRow) (maxL := 2) (ret := (some .int)) (by decide) rfl ?_
  intro p e s m args below meth c s₁ B hml hv
  obtain ⟨rfl, hE, hP⟩ := hv
  have hx := B.exec
  have hb := B.bytes
  have hr := B.returns
  have hts := atoms_spec (ws := wsX5_onRow) B.pre
  have hown : s.vm.findClass RX5 = some m.cls := findClass_of_methodNamed B.named
  have hlocks := B.notSynchronized
  have hK := hE.1
  have hNS := hE.2.1
  have hl := lv_entry ([.int x, .int n]) (n := 2) (Nat.le_of_ble_eq_true rfl)
  rw [lg_entry_eq]
  generalize (lg_sl ([.int x, .int n]) ++ List.replicate (2 - (lg_sl ([.int x, .int n])).length) Slot.unset).toArray = ls at hl ⊢
  have hl : lv_has ls 2 [(0, .int x), (1, .int n)] := hl
  refine lv_iconst (v := 0) hx hb dX5_onRow_0 (by decide) ?_
  refine lv_iload_n hx hb dX5_onRow_1 rfl (lv_at hl 0 rfl) ?_
  refine lv_iload_n hx hb dX5_onRow_2 rfl (lv_at hl 1 rfl) ?_
  refine lv_iconst (v := 1) hx hb dX5_onRow_3 (by decide) ?_
  refine lv_isub hx hb dX5_onRow_4 ?_
  refine va_mmin hx hb (hml.trans hl.1.symm) hown (hts (.methodLink RX5 92 Lib.Math.min.name) (List.mem_of_getElem? (i := 1) (by decide +kernel))) (hts (.static Lib.Math.min.name) (List.mem_of_getElem? (i := 2) (by decide +kernel))) (hts (.initialized "java/lang/Math") (List.mem_of_getElem? (i := 3) (by decide +kernel))) (hts (.code Lib.Math.min.name Lib.Math.min.code 2 (some .int)) (List.mem_of_getElem? (i := 4) (by decide +kernel))) (Nat.le_of_ble_eq_true rfl) (Nat.le_of_ble_eq_true rfl) (Nat.le_of_ble_eq_true rfl) (Nat.le_of_ble_eq_true rfl) dX5_onRow_5 ?_
  refine lv_topr (show _ = minI x (n - 1) from rfl) ?_
  refine va_mmax hx hb (hml.trans hl.1.symm) hown (hts (.methodLink RX5 86 Lib.Math.max.name) (List.mem_of_getElem? (i := 5) (by decide +kernel))) (hts (.static Lib.Math.max.name) (List.mem_of_getElem? (i := 6) (by decide +kernel))) (hts (.initialized "java/lang/Math") (List.mem_of_getElem? (i := 3) (by decide +kernel))) (hts (.code Lib.Math.max.name Lib.Math.max.code 2 (some .int)) (List.mem_of_getElem? (i := 7) (by decide +kernel))) (Nat.le_of_ble_eq_true rfl) (Nat.le_of_ble_eq_true rfl) (Nat.le_of_ble_eq_true rfl) (Nat.le_of_ble_eq_true rfl) dX5_onRow_8 ?_
  refine lv_topr (show _ = maxI 0 (minI x (n - 1)) from rfl) ?_
  exact W.iret (v := maxI 0 (minI x (n - 1))) hx hb hr (fun t ht hW => ⟨maxI 0 (minI x (n - 1)), rfl, rfl, ht⟩) (fun _ h => by cases h) dX5_onRow_11
set_option maxHeartbeats 4000000 in
set_option maxRecDepth 100000 in
theorem C_X5_placeIn (l : Launch) (dC : Nat → ClassId) (dI : Nat → Nat → Nat) (cI cZ cP : ClassId) (N0 tO : Nat) (a n : Nat) (h1 : a < n) (h2 : n < 2 ^ 31) : Met l yX5_placeIn wsX5_placeIn ({ frames := 1, cells := 0, slots := 0, locals := 21 } : Room) (Gv (dC, dI) cI cZ cP N0 tO [.int (nI a), .int (nI n)] (fun H => True)) (vp_Si (fun r : Int32 => r = nI a)) 0 0 (fun _ => False) := by
  refine Met.ofW (cc := cX5_placeIn) (maxL := 2) (ret := (some .int)) (by decide) rfl ?_
  intro p e s m args below meth c s₁ B hml hv
  obtain ⟨rfl, hE, hP⟩ := hv
  have hx := B.exec
  have hb := B.bytes
  have hr := B.returns
  have hts := atoms_spec (ws := wsX5_placeIn) B.pre
  have hown : s.vm.findClass RX5 = some m.cls := findClass_of_methodNamed B.named
  have hlocks := B.notSynchronized
  have hK := hE.1
  have hNS := hE.2.1
  have hl := lv_entry ([.int (nI a), .int (nI n)]) (n := 2) (Nat.le_of_ble_eq_true rfl)
  rw [lg_entry_eq]
  generalize (lg_sl ([.int (nI a), .int (nI n)]) ++ List.replicate (2 - (lg_sl ([.int (nI a), .int (nI n)])).length) Slot.unset).toArray = ls at hl ⊢
  have hl : lv_has ls 2 [(0, .int (nI a)), (1, .int (nI n))] := hl
  refine lv_iload_n hx hb dX5_placeIn_0 rfl (lv_at hl 0 rfl) ?_
  refine lv_if_lt (tgt := 9) hx hb dX5_placeIn_1 (by decide) (fun c1 => ?_) (fun c1 => ?_)
  · skip
    have c1 : a < 0 := (nI_ltI (a := a) (b := 0) (by omega) (by omega)).mp c1
    exact False.elim (by omega)
  · skip
    have c1 : ¬ a < 0 := fun z => c1 ((nI_ltI (a := a) (b := 0) (by omega) (by omega)).mpr z)
    refine lv_iload_n hx hb dX5_placeIn_4 rfl (lv_at hl 0 rfl) ?_
    refine lv_iload_n hx hb dX5_placeIn_5 rfl (lv_at hl 1 rfl) ?_
    refine lv_icmp_lt (tgt := 20) hx hb dX5_placeIn_6 (by decide) (fun c6 => ?_) (fun c6 => ?_)
    · skip
      have c6 : a < n := (nI_ltI (a := a) (b := n) (by omega) (by omega)).mp c6
      refine lv_iload_n hx hb dX5_placeIn_20 rfl (lv_at hl 0 rfl) ?_
      exact W.iret (v := nI a) hx hb hr (fun t ht hW => ⟨nI a, rfl, rfl, ht⟩) (fun _ h => by cases h) dX5_placeIn_21
    · skip
      have c6 : ¬ a < n := fun z => c6 ((nI_ltI (a := a) (b := n) (by omega) (by omega)).mpr z)
      exact False.elim (by omega)
set_option maxHeartbeats 4000000 in
set_option maxRecDepth 100000 in
theorem C_X5_pointAt (l : Launch) (dC : Nat → ClassId) (dI : Nat → Nat → Nat) (cI cZ cP : ClassId) (N0 tO : Nat) (x y : Nat) (h1 : x < 32) (h2 : y < 24) : Met l yX5_pointAt wsX5_pointAt ({ frames := 2, cells := 0, slots := 0, locals := 42 } : Room) (Gv (dC, dI) cI cZ cP N0 tO [.int (nI x), .int (nI y)] (fun H => True)) (vp_Si (fun r : Int32 => r = nI (y * 32 + x))) 0 0 (fun _ => False) := by
  refine Met.ofW (cc := cX5_pointAt) (maxL := 2) (ret := (some .int)) (by decide) rfl ?_
  intro p e s m args below meth c s₁ B hml hv
  obtain ⟨rfl, hE, hP⟩ := hv
  have hx := B.exec
  have hb := B.bytes
  have hr := B.returns
  have hts := atoms_spec (ws := wsX5_pointAt) B.pre
  have hown : s.vm.findClass RX5 = some m.cls := findClass_of_methodNamed B.named
  have hlocks := B.notSynchronized
  have hK := hE.1
  have hNS := hE.2.1
  have hl := lv_entry ([.int (nI x), .int (nI y)]) (n := 2) (Nat.le_of_ble_eq_true rfl)
  rw [lg_entry_eq]
  generalize (lg_sl ([.int (nI x), .int (nI y)]) ++ List.replicate (2 - (lg_sl ([.int (nI x), .int (nI y)])).length) Slot.unset).toArray = ls at hl ⊢
  have hl : lv_has ls 2 [(0, .int (nI x)), (1, .int (nI y))] := hl
  refine lv_iload_n hx hb dX5_pointAt_0 rfl (lv_at hl 1 rfl) ?_
  refine lv_bipush (v := 24) hx hb dX5_pointAt_1 (by decide +kernel) ?_
  refine vp_callSi (va_Run.run (va_runS (As := [.int (nI y), .int 24]) (rest := []) ⟨hx, hb, hml, hown, hts⟩ (C_X5_placeIn l dC dI cI cZ cP N0 tO y 24 (by omega) (by omega)) (va_cwS 2 hts gX5_pointAt_X5_placeIn rfl rfl rfl (by decide +kernel) ⟨Nat.le_of_ble_eq_true rfl, Nat.le_of_ble_eq_true rfl⟩) ⟨Gv.blind, Gv.of hE trivial⟩ rfl rfl hl.1 rfl (lv_room (Nat.le_of_ble_eq_true rfl)) dX5_pointAt_3 ⟨Nat.le_of_ble_eq_true rfl, Nat.le_of_ble_eq_true rfl⟩)) (fun r_1 hr_1 => ?_)
  have hr_1 : r_1 = nI y := hr_1
  refine lv_topr hr_1 ?_
  refine lv_bipush (v := 32) hx hb dX5_pointAt_6 (by decide +kernel) ?_
  refine lv_imul hx hb dX5_pointAt_8 ?_
  refine lv_topr (show _ = nI (y * 32) from pk_mul y 32) ?_
  refine lv_iload_n hx hb dX5_pointAt_9 rfl (lv_at hl 0 rfl) ?_
  refine lv_bipush (v := 32) hx hb dX5_pointAt_10 (by decide +kernel) ?_
  refine vp_callSi (va_Run.run (va_runS (As := [.int (nI x), .int 32]) (rest := [.int (nI (y * 32))]) ⟨hx, hb, hml, hown, hts⟩ (C_X5_placeIn l dC dI cI cZ cP N0 tO x 32 (by omega) (by omega)) (va_cwS 2 hts gX5_pointAt_X5_placeIn rfl rfl rfl (by decide +kernel) ⟨Nat.le_of_ble_eq_true rfl, Nat.le_of_ble_eq_true rfl⟩) ⟨Gv.blind, Gv.of hE trivial⟩ rfl rfl hl.1 rfl (lv_room (Nat.le_of_ble_eq_true rfl)) dX5_pointAt_12 ⟨Nat.le_of_ble_eq_true rfl, Nat.le_of_ble_eq_true rfl⟩)) (fun r_2 hr_2 => ?_)
  have hr_2 : r_2 = nI x := hr_2
  refine lv_topr hr_2 ?_
  refine lv_iadd hx hb dX5_pointAt_15 ?_
  refine lv_topr (show _ = nI ((y * 32) + x) from nI_add (y * 32) x) ?_
  exact W.iret (v := nI ((y * 32) + x)) hx hb hr (fun t ht hW => ⟨nI ((y * 32) + x), rfl, rfl, ht⟩) (fun _ h => by cases h) dX5_pointAt_16
set_option maxHeartbeats 4000000 in
set_option maxRecDepth 100000 in
theorem C_X5_firstPointOf (l : Launch) (dC : Nat → ClassId) (dI : Nat → Nat → Nat) (cI cZ cP : ClassId) (N0 tO : Nat) (b : Nat) (h1 : b < 12) : Met l yX5_firstPointOf wsX5_firstPointOf ({ frames := 0, cells := 0, slots := 0, locals := 0 } : Room) (Gv (dC, dI) cI cZ cP N0 tO [.int (nI b)] (fun H => True)) (vp_Si (fun r : Int32 => r = nI (b / 4 * 8 * 32 + b % 4 * 8))) 0 0 (fun _ => False) := by
  refine Met.ofW (cc := cX5_firstPointOf) (maxL := 1) (ret := (some .int)) (by decide) rfl ?_
  intro p e s m args below meth c s₁ B hml hv
  obtain ⟨rfl, hE, hP⟩ := hv
  have hx := B.exec
  have hb := B.bytes
  have hr := B.returns
  have hts := atoms_spec (ws := wsX5_firstPointOf) B.pre
  have hown : s.vm.findClass RX5 = some m.cls := findClass_of_methodNamed B.named
  have hlocks := B.notSynchronized
  have hK := hE.1
  have hNS := hE.2.1
  have hl := lv_entry ([.int (nI b)]) (n := 1) (Nat.le_of_ble_eq_true rfl)
  rw [lg_entry_eq]
  generalize (lg_sl ([.int (nI b)]) ++ List.replicate (1 - (lg_sl ([.int (nI b)])).length) Slot.unset).toArray = ls at hl ⊢
  have hl : lv_has ls 1 [(0, .int (nI b))] := hl
  refine lv_iload_n hx hb dX5_firstPointOf_0 rfl (lv_at hl 0 rfl) ?_
  refine lv_iconst (v := 4) hx hb dX5_firstPointOf_1 (by decide) ?_
  refine lv_idiv hx hb dX5_firstPointOf_2 (by decide) ?_
  refine lv_topr (show _ = nI (b / 4) from pk_div (a := b) (d := 4) (by omega) (by omega) (by omega)) ?_
  refine lv_bipush (v := 8) hx hb dX5_firstPointOf_3 (by decide +kernel) ?_
  refine lv_imul hx hb dX5_firstPointOf_5 ?_
  refine lv_topr (show _ = nI ((b / 4) * 8) from pk_mul (b / 4) 8) ?_
  refine lv_bipush (v := 32) hx hb dX5_firstPointOf_6 (by decide +kernel) ?_
  refine lv_imul hx hb dX5_firstPointOf_8 ?_
  refine lv_topr (show _ = nI (((b / 4) * 8) * 32) from pk_mul ((b / 4) * 8) 32) ?_
  refine lv_iload_n hx hb dX5_firstPointOf_9 rfl (lv_at hl 0 rfl) ?_
  refine lv_iconst (v := 4) hx hb dX5_firstPointOf_10 (by decide) ?_
  refine lv_irem hx hb dX5_firstPointOf_11 (by decide) ?_
  refine lv_topr (show _ = nI (b % 4) from pk_rem (a := b) (d := 4) (by omega) (by omega) (by omega)) ?_
  refine lv_bipush (v := 8) hx hb dX5_firstPointOf_12 (by decide +kernel) ?_
  refine lv_imul hx hb dX5_firstPointOf_14 ?_
  refine lv_topr (show _ = nI ((b % 4) * 8) from pk_mul (b % 4) 8) ?_
  refine lv_iadd hx hb dX5_firstPointOf_15 ?_
  refine lv_topr (show _ = nI ((((b / 4) * 8) * 32) + ((b % 4) * 8)) from nI_add (((b / 4) * 8) * 32) ((b % 4) * 8)) ?_
  exact W.iret (v := nI ((((b / 4) * 8) * 32) + ((b % 4) * 8))) hx hb hr (fun t ht hW => ⟨nI ((((b / 4) * 8) * 32) + ((b % 4) * 8)), rfl, rfl, ht⟩) (fun _ h => by cases h) dX5_firstPointOf_16
set_option maxHeartbeats 4000000 in
set_option maxRecDepth 100000 in
theorem C_X5_isFirstOfBand (l : Launch) (dC : Nat → ClassId) (dI : Nat → Nat → Nat) (cI cZ cP : ClassId) (N0 tO : Nat) (b : Nat) (h1 : b < 12) : Met l yX5_isFirstOfBand wsX5_isFirstOfBand ({ frames := 0, cells := 0, slots := 0, locals := 0 } : Room) (Gv (dC, dI) cI cZ cP N0 tO [.int (nI b)] (fun H => True)) (vp_Si (fun r : Int32 => r = isFB b)) 0 0 (fun _ => False) := by
  refine Met.ofW (cc := cX5_isFirstOfBand) (maxL := 1) (ret := (some .boolean)) (by decide) rfl ?_
  intro p e s m args below meth c s₁ B hml hv
  obtain ⟨rfl, hE, hP⟩ := hv
  have hx := B.exec
  have hb := B.bytes
  have hr := B.returns
  have hts := atoms_spec (ws := wsX5_isFirstOfBand) B.pre
  have hown : s.vm.findClass RX5 = some m.cls := findClass_of_methodNamed B.named
  have hlocks := B.notSynchronized
  have hK := hE.1
  have hNS := hE.2.1
  have hl := lv_entry ([.int (nI b)]) (n := 1) (Nat.le_of_ble_eq_true rfl)
  rw [lg_entry_eq]
  generalize (lg_sl ([.int (nI b)]) ++ List.replicate (1 - (lg_sl ([.int (nI b)])).length) Slot.unset).toArray = ls at hl ⊢
  have hl : lv_has ls 1 [(0, .int (nI b))] := hl
  refine lv_iload_n hx hb dX5_isFirstOfBand_0 rfl (lv_at hl 0 rfl) ?_
  refine lv_iconst (v := 4) hx hb dX5_isFirstOfBand_1 (by decide) ?_
  refine lv_irem hx hb dX5_isFirstOfBand_2 (by decide) ?_
  refine lv_topr (show _ = nI (b % 4) from pk_rem (a := b) (d := 4) (by omega) (by omega) (by omega)) ?_
  refine lv_if_ne (tgt := 10) hx hb dX5_isFirstOfBand_3 (by decide) (fun c3 => ?_) (fun c3 => ?_)
  · skip
    have c3 : ¬ (b % 4) = 0 := fun z => c3 ((nI_eq (a := (b % 4)) (b := 0) (by omega) (by omega)).mpr z)
    refine lv_iconst (v := 0) hx hb dX5_isFirstOfBand_10 (by decide) ?_
    exact W.zret (v := 0) hx hb hr rfl (fun t ht hW => ⟨0, rfl, (by rw [isFB, if_neg c3] <;> rfl), ht⟩) (fun _ h => by cases h) dX5_isFirstOfBand_11
  · skip
    have c3 : (b % 4) = 0 := (nI_eq (a := (b % 4)) (b := 0) (by omega) (by omega)).mp c3
    refine lv_iconst (v := 1) hx hb dX5_isFirstOfBand_6 (by decide) ?_
    refine lv_goto (tgt := 11) hx hb dX5_isFirstOfBand_7 (by decide) ?_
    exact W.zret (v := 1) hx hb hr rfl (fun t ht hW => ⟨1, rfl, (by rw [isFB, if_pos c3] <;> rfl), ht⟩) (fun _ h => by cases h) dX5_isFirstOfBand_11
set_option maxHeartbeats 4000000 in
set_option maxRecDepth 100000 in
theorem C_X5_folded (l : Launch) (dC : Nat → ClassId) (dI : Nat → Nat → Nat) (cI cZ cP : ClassId) (N0 tO : Nat) (x : Int32)  : Met l yX5_folded wsX5_folded ({ frames := 0, cells := 0, slots := 0, locals := 0 } : Room) (Gv (dC, dI) cI cZ cP N0 tO [.int x] (fun H => True)) (vp_Si (fun r : Int32 => r = foldedI x)) 0 0 (fun _ => False) := by
  refine Met.ofW (cc := cX5_folded) (maxL := 1) (ret := (some .int)) (by decide) rfl ?_
  intro p e s m args below meth c s₁ B hml hv
  obtain ⟨rfl, hE, hP⟩ := hv
  have hx := B.exec
  have hb := B.bytes
  have hr := B.returns
  have hts := atoms_spec (ws := wsX5_folded) B.pre
  have hown : s.vm.findClass RX5 = some m.cls := findClass_of_methodNamed B.named
  have hlocks := B.notSynchronized
  have hK := hE.1
  have hNS := hE.2.1
  have hl := lv_entry ([.int x]) (n := 1) (Nat.le_of_ble_eq_true rfl)
  rw [lg_entry_eq]
  generalize (lg_sl ([.int x]) ++ List.replicate (1 - (lg_sl ([.int x])).length) Slot.unset).toArray = ls at hl ⊢
  have hl : lv_has ls 1 [(0, .int x)] := hl
  refine lv_iload_n hx hb dX5_folded_0 rfl (lv_at hl 0 rfl) ?_
  refine lv_if_le (tgt := 12) hx hb dX5_folded_1 (by decide) (fun c1 => ?_) (fun c1 => ?_)
  · skip
    refine lv_bipush (v := (-2)) hx hb dX5_folded_12 (by decide +kernel) ?_
    refine lv_iload_n hx hb dX5_folded_14 rfl (lv_at hl 0 rfl) ?_
    refine lv_imul hx hb dX5_folded_15 ?_
    exact W.iret (v := (-2) * x) hx hb hr (fun t ht hW => ⟨(-2) * x, rfl, (by rw [foldedI, if_pos c1] <;> rfl), ht⟩) (fun _ h => by cases h) dX5_folded_16
  · skip
    refine lv_iconst (v := 2) hx hb dX5_folded_4 (by decide) ?_
    refine lv_iload_n hx hb dX5_folded_5 rfl (lv_at hl 0 rfl) ?_
    refine lv_imul hx hb dX5_folded_6 ?_
    refine lv_iconst (v := 1) hx hb dX5_folded_7 (by decide) ?_
    refine lv_isub hx hb dX5_folded_8 ?_
    refine lv_goto (tgt := 16) hx hb dX5_folded_9 (by decide) ?_
    exact W.iret (v := (2 * x) - 1) hx hb hr (fun t ht hW => ⟨(2 * x) - 1, rfl, (by rw [foldedI, if_neg c1] <;> rfl), ht⟩) (fun _ h => by cases h) dX5_folded_16
set_option maxHeartbeats 4000000 in
set_option maxRecDepth 100000 in
theorem C_X5_distance (l : Launch) (dC : Nat → ClassId) (dI : Nat → Nat → Nat) (cI cZ cP : ClassId) (N0 tO : Nat) (a b : Nat) (f g : Nat → Int32)  : Met l yX5_distance wsX5_distance ({ frames := 1, cells := 0, slots := 0, locals := 32 } : Room) (Gv (dC, dI) cI cZ cP N0 tO [.ref a, .ref b] (fun H => va_P (dC, dI) vwCl [(a, .inl (cI, 768, .inl f)), (b, .inl (cI, 768, .inl g))] H)) (vp_Si (fun r : Int32 => r = distF f g 768)) 0 0 (fun _ => False) := by
  refine Met.ofW (cc := cX5_distance) (maxL := 4) (ret := (some .int)) (by decide) rfl ?_
  intro p e s m args below meth c s₁ B hml hv
  obtain ⟨rfl, hE, hP⟩ := hv
  have hx := B.exec
  have hb := B.bytes
  have hr := B.returns
  have hts := atoms_spec (ws := wsX5_distance) B.pre
  have hown : s.vm.findClass RX5 = some m.cls := findClass_of_methodNamed B.named
  have hlocks := B.notSynchronized
  have hK := hE.1
  have hNS := hE.2.1
  have hP : va_P (dC, dI) vwCl [(a, .inl (cI, 768, .inl f)), (b, .inl (cI, 768, .inl g))] s.heap := hP
  have hl := lv_entry ([.ref a, .ref b]) (n := 4) (Nat.le_of_ble_eq_true rfl)
  rw [lg_entry_eq]
  generalize (lg_sl ([.ref a, .ref b]) ++ List.replicate (4 - (lg_sl ([.ref a, .ref b])).length) Slot.unset).toArray = ls at hl ⊢
  have hl : lv_has ls 4 [(0, .ref a), (1, .ref b)] := hl
  refine lv_iconst (v := 0) hx hb dX5_distance_0 (by decide) ?_
  refine lv_istore_n (lv' := [(2, .int 0), (0, .ref a), (1, .ref b)]) hx hb dX5_distance_1 rfl hl (by decide) rfl (fun ls hl => ?_)
  refine lv_iconst (v := 0) hx hb dX5_distance_2 (by decide) ?_
  refine lv_istore_n (lv' := [(3, .int 0), (2, .int 0), (0, .ref a), (1, .ref b)]) hx hb dX5_distance_3 rfl hl (by decide) rfl (fun ls hl => ?_)
  have L4 : ∀ (n4 : Nat) (i : Nat) (x2 : Int32), (i ≤ 768) → 768 - i < n4 → x2 = (distF f g i) → ∀ (ls : Array Slot), lv_has ls 4 [(3, .int (nI i)), (2, .int x2), (0, .ref a), (1, .ref b)] → W p l e (headSpec wsX5_distance ({ frames := 1, cells := 0, slots := 0, locals := 32 } : Room)).room s m ([.ref a, .ref b] : List Value).toArray below meth c s.heap [] 0 0 (MQ below (vp_Si (fun r : Int32 => r = distF f g 768)) ([.ref a, .ref b] : List Value).toArray s 0 0 (fun _ => False)) (F0 m 4 ls []) := by
    intro n4
    induction n4 with
    | zero => intro i x2 hi hz; exact absurd hz (Nat.not_lt_zero _)
    | succ n4 ih4 =>
      intro i x2 hi hfu ex2 ls hl
      refine lv_iload_n hx hb dX5_distance_4 rfl (lv_at hl 0 rfl) ?_
      refine lv_sipush (v := 768) hx hb dX5_distance_5 (by decide +kernel) ?_
      refine lv_icmp_ge (tgt := 30) hx hb dX5_distance_8 (by decide) (fun c8 => ?_) (fun c8 => ?_)
      · skip
        have c8 : 768 ≤ i := (nI_leI (a := 768) (b := i) (by omega) (by omega)).mp c8
        obtain rfl : i = 768 := by omega
        refine lv_iload_n hx hb dX5_distance_30 rfl (lv_at hl 1 rfl) ?_
        exact W.iret (v := x2) hx hb hr (fun t ht hW => ⟨x2, rfl, (by rw [ex2] <;> rfl), ht⟩) (fun _ h => by cases h) dX5_distance_31
      · skip
        have c8 : ¬ 768 ≤ i := fun z => c8 ((nI_leI (a := 768) (b := i) (by omega) (by omega)).mpr z)
        refine lv_iload_n hx hb dX5_distance_11 rfl (lv_at hl 1 rfl) ?_
        refine lv_aload_n hx hb dX5_distance_12 rfl (lv_at hl 2 rfl) ?_
        refine lv_iload_n hx hb dX5_distance_13 rfl (lv_at hl 0 rfl) ?_
        refine wa_iald (D := (dC, dI)) (i := i) (f := f) hx hb hK hP 0 0 rfl rfl (by omega) (by omega) dX5_distance_14 ?_
        refine lv_aload_n hx hb dX5_distance_15 rfl (lv_at hl 3 rfl) ?_
        refine lv_iload_n hx hb dX5_distance_16 rfl (lv_at hl 0 rfl) ?_
        refine wa_iald (D := (dC, dI)) (i := i) (f := g) hx hb hK hP 1 0 rfl rfl (by omega) (by omega) dX5_distance_17 ?_
        refine lv_isub hx hb dX5_distance_18 ?_
        refine va_mabs hx hb (hml.trans hl.1.symm) hown (hts (.methodLink RX5 274 Lib.Math.abs.name) (List.mem_of_getElem? (i := 1) (by decide +kernel))) (hts (.static Lib.Math.abs.name) (List.mem_of_getElem? (i := 2) (by decide +kernel))) (hts (.initialized "java/lang/Math") (List.mem_of_getElem? (i := 3) (by decide +kernel))) (hts (.code Lib.Math.abs.name Lib.Math.abs.code 1 (some .int)) (List.mem_of_getElem? (i := 4) (by decide +kernel))) (Nat.le_of_ble_eq_true rfl) (Nat.le_of_ble_eq_true rfl) (Nat.le_of_ble_eq_true rfl) (Nat.le_of_ble_eq_true rfl) dX5_distance_19 ?_
        refine lv_topr (show _ = absI ((f i) - (g i)) from rfl) ?_
        refine lv_iadd hx hb dX5_distance_22 ?_
        refine lv_topi (fun x_1 ex_1 => ?_)
        refine lv_istore_n (lv' := [(2, .int x_1), (3, .int (nI i)), (0, .ref a), (1, .ref b)]) hx hb dX5_distance_23 rfl hl (by decide) rfl (fun ls hl => ?_)
        refine lv_iinc (v := nI (i + 1)) (lv' := [(3, .int (nI (i + 1))), (2, .int x_1), (0, .ref a), (1, .ref b)]) hx hb dX5_distance_24 hl (k := 1) rfl (show nI i + Int32.ofInt 1 = nI (i + 1) from nI_add _ _) (by decide) rfl (fun ls hl => ?_)
        refine lv_goto (tgt := 4) hx hb dX5_distance_27 (by decide) ?_
        exact ih4 (i + 1) x_1 (by omega) (by omega) (by rw [ex_1, ex2] <;> rfl) _ (lv_sub hl [0, 1, 2, 3] rfl)
  exact L4 (768 + 1) 0 0 (by omega) (Nat.lt_succ_self _) rfl _ (lv_sub hl [0, 1, 2, 3] rfl)
set_option maxHeartbeats 4000000 in
set_option maxRecDepth 100000 in
theorem C_X5_digestPoints (l : Launch) (dC : Nat → ClassId) (dI : Nat → Nat → Nat) (cI cZ cP : ClassId) (N0 tO : Nat) (a : Nat) (d : Int64) (f : Nat → Int32)  : Met l yX5_digestPoints wsX5_digestPoints ({ frames := 0, cells := 0, slots := 0, locals := 0 } : Room) (Gv (dC, dI) cI cZ cP N0 tO [.long d, .ref a] (fun H => va_P (dC, dI) vwCl [(a, .inl (cI, 768, .inl f))] H)) (vp_Sl (fun r : Int64 => r = dgF d f 768)) 0 0 (fun _ => False) := by
  refine Met.ofW (cc := cX5_digestPoints) (maxL := 6) (ret := (some .long)) (by decide) rfl ?_
  intro p e s m args below meth c s₁ B hml hv
  obtain ⟨rfl, hE, hP⟩ := hv
  have hx := B.exec
  have hb := B.bytes
  have hr := B.returns
  have hts := atoms_spec (ws := wsX5_digestPoints) B.pre
  have hown : s.vm.findClass RX5 = some m.cls := findClass_of_methodNamed B.named
  have hlocks := B.notSynchronized
  have hK := hE.1
  have hNS := hE.2.1
  have hP : va_P (dC, dI) vwCl [(a, .inl (cI, 768, .inl f))] s.heap := hP
  have hl := lv_entry ([.long d, .ref a]) (n := 6) (Nat.le_of_ble_eq_true rfl)
  rw [lg_entry_eq]
  generalize (lg_sl ([.long d, .ref a]) ++ List.replicate (6 - (lg_sl ([.long d, .ref a])).length) Slot.unset).toArray = ls at hl ⊢
  have hl : lv_has ls 6 [(0, .long d), (2, .ref a)] := hl
  refine lv_lload_n hx hb dX5_digestPoints_0 rfl (lv_at hl 0 rfl) ?_
  refine lv_lstore_n (lv' := [(3, .long d), (0, .long d), (2, .ref a)]) hx hb dX5_digestPoints_1 rfl hl (by decide) rfl (fun ls hl => ?_)
  refine lv_iconst (v := 0) hx hb dX5_digestPoints_2 (by decide) ?_
  refine lv_istore (lv' := [(5, .int 0), (3, .long d), (0, .long d), (2, .ref a)]) hx hb dX5_digestPoints_3 hl (by decide) rfl (fun ls hl => ?_)
  have L5 : ∀ (n5 : Nat) (i : Nat) (x3 : Int64), (i ≤ 768) → 768 - i < n5 → x3 = (dgF d f i) → ∀ (ls : Array Slot), lv_has ls 6 [(5, .int (nI i)), (3, .long x3), (0, .long d), (2, .ref a)] → W p l e (headSpec wsX5_digestPoints ({ frames := 0, cells := 0, slots := 0, locals := 0 } : Room)).room s m ([.long d, .ref a] : List Value).toArray below meth c s.heap [] 0 0 (MQ below (vp_Sl (fun r : Int64 => r = dgF d f 768)) ([.long d, .ref a] : List Value).toArray s 0 0 (fun _ => False)) (F0 m 5 ls []) := by
    intro n5
    induction n5 with
    | zero => intro i x3 hi hz; exact absurd hz (Nat.not_lt_zero _)
    | succ n5 ih5 =>
      intro i x3 hi hfu ex3 ls hl
      refine lv_iload hx hb dX5_digestPoints_5 (lv_at hl 0 rfl) ?_
      refine lv_sipush (v := 768) hx hb dX5_digestPoints_7 (by decide +kernel) ?_
      refine lv_icmp_ge (tgt := 31) hx hb dX5_digestPoints_10 (by decide) (fun c10 => ?_) (fun c10 => ?_)
      · skip
        have c10 : 768 ≤ i := (nI_leI (a := 768) (b := i) (by omega) (by omega)).mp c10
        obtain rfl : i = 768 := by omega
        refine lv_lload_n hx hb dX5_digestPoints_31 rfl (lv_at hl 1 rfl) ?_
        exact W.lret (v := x3) hx hb hr (fun t ht hW => ⟨x3, rfl, (by rw [ex3] <;> rfl), ht⟩) (fun _ h => by cases h) dX5_digestPoints_32
      · skip
        have c10 : ¬ 768 ≤ i := fun z => c10 ((nI_leI (a := 768) (b := i) (by omega) (by omega)).mpr z)
        refine lv_lload_n hx hb dX5_digestPoints_13 rfl (lv_at hl 1 rfl) ?_
        refine lv_ldc2 (v := 31) hx hb hown (hts (.constantLong RX5 253 (31)) (List.mem_of_getElem? (i := 1) (by decide +kernel))) dX5_digestPoints_14 ?_
        refine lv_lmul hx hb dX5_digestPoints_17 ?_
        refine lv_aload_n hx hb dX5_digestPoints_18 rfl (lv_at hl 3 rfl) ?_
        refine lv_iload hx hb dX5_digestPoints_19 (lv_at hl 0 rfl) ?_
        refine wa_iald (D := (dC, dI)) (i := i) (f := f) hx hb hK hP 0 0 rfl rfl (by omega) (by omega) dX5_digestPoints_21 ?_
        refine lv_i2l (v := (f i).toInt64) hx hb dX5_digestPoints_22 rfl ?_
        refine lv_ladd hx hb dX5_digestPoints_23 ?_
        refine lv_topl (fun x_1 ex_1 => ?_)
        refine lv_lstore_n (lv' := [(3, .long x_1), (5, .int (nI i)), (0, .long d), (2, .ref a)]) hx hb dX5_digestPoints_24 rfl hl (by decide) rfl (fun ls hl => ?_)
        refine lv_iinc (v := nI (i + 1)) (lv' := [(5, .int (nI (i + 1))), (3, .long x_1), (0, .long d), (2, .ref a)]) hx hb dX5_digestPoints_25 hl (k := 1) rfl (show nI i + Int32.ofInt 1 = nI (i + 1) from nI_add _ _) (by decide) rfl (fun ls hl => ?_)
        refine lv_goto (tgt := 5) hx hb dX5_digestPoints_28 (by decide) ?_
        exact ih5 (i + 1) x_1 (by omega) (by omega) (by rw [ex_1, ex3] <;> rfl) _ (lv_sub hl [0, 1, 2, 3] rfl)
  exact L5 (768 + 1) 0 d (by omega) (Nat.lt_succ_self _) rfl _ (lv_sub hl [0, 1, 2, 3] rfl)
set_option maxHeartbeats 4000000 in
set_option maxRecDepth 100000 in
theorem C_J7_fill_53178 (l : Launch) (dC : Nat → ClassId) (dI : Nat → Nat → Nat) (cI cZ cP : ClassId) (N0 tO : Nat) (a n : Nat) (f : Nat → Int32) (x : Int32) (hn : n < 2 ^ 31) : Met l yJ7_fill_53178 wsJ7_fill_53178 ({ frames := 0, cells := 0, slots := 0, locals := 0 } : Room) (Gv (dC, dI) cI cZ cP N0 tO [.ref a, .int x] (fun H => va_P (dC, dI) vwCl [(a, .inl (cI, n, .inl f))] H ∧ AD N0 [a])) (va_Qv (fun (_ : Unit) => True) (fun (_ : Unit) (t : State) => va_P (dC, dI) vwCl [(a, .inl (cI, n, .inl (fun _ => x)))] t.heap) (inL [a])) 0 0 (inL [a]) := by
  refine Met.ofW (cc := cJ7_fill_53178) (maxL := 4) (ret := none) (by decide) rfl ?_
  intro p e s m args below meth c s₁ B hml hv
  obtain ⟨rfl, hE, hP, hN⟩ := hv
  have hx := B.exec
  have hb := B.bytes
  have hr := B.returns
  have hts := atoms_spec (ws := wsJ7_fill_53178) B.pre
  have hown : s.vm.findClass RJ7 = some m.cls := findClass_of_methodNamed B.named
  have hlocks := B.notSynchronized
  have hK := hE.1
  have hNS := hE.2.1
  have hS : va_S (inL [a]) s.heap s.heap [] := va_S.rf
  have hAN : ∀ q : Nat, (inL [a]) q → N0 ≤ q := fun q h => hN.in [0] rfl q h
  have hP : va_P (dC, dI) vwCl [(a, .inl (cI, n, .inl f))] s.heap := hP
  have hl := lv_entry ([.ref a, .int x]) (n := 4) (Nat.le_of_ble_eq_true rfl)
  rw [lg_entry_eq]
  generalize (lg_sl ([.ref a, .int x]) ++ List.replicate (4 - (lg_sl ([.ref a, .int x])).length) Slot.unset).toArray = ls at hl ⊢
  have hl : lv_has ls 4 [(0, .ref a), (1, .int x)] := hl
  refine lv_iconst (v := 0) hx hb dJ7_fill_53178_0 (by decide) ?_
  refine lv_istore_n (lv' := [(2, .int 0), (0, .ref a), (1, .int x)]) hx hb dJ7_fill_53178_1 rfl hl (by decide) rfl (fun ls hl => ?_)
  refine lv_aload_n hx hb dJ7_fill_53178_2 rfl (lv_at hl 1 rfl) ?_
  refine va_alen (D := (dC, dI)) (v := nI n) hx hb hK hP 0 0 rfl rfl rfl dJ7_fill_53178_3 ?_
  refine lv_istore_n (lv' := [(3, .int (nI n)), (2, .int 0), (0, .ref a), (1, .int x)]) hx hb dJ7_fill_53178_4 rfl hl (by decide) rfl (fun ls hl => ?_)
  have L5 : ∀ (n5 : Nat) (i : Nat) (f1 : Nat → Int32), (i ≤ n) → n - i < n5 → f1 = (fillTo (fun _ => x) f i) → ∀ (H : Heap) (locs : List Loc) (ls : Array Slot), va_P (dC, dI) vwCl [(a, .inl (cI, n, .inl f1))] H → va_S (inL [a]) s.heap H locs → lv_has ls 4 [(3, .int (nI n)), (2, .int (nI i)), (0, .ref a), (1, .int x)] → W p l e (headSpec wsJ7_fill_53178 ({ frames := 0, cells := 0, slots := 0, locals := 0 } : Room)).room s m ([.ref a, .int x] : List Value).toArray below meth c H locs 0 0 (MQ below (va_Qv (fun (_ : Unit) => True) (fun (_ : Unit) (t : State) => va_P (dC, dI) vwCl [(a, .inl (cI, n, .inl (fun _ => x)))] t.heap) (inL [a])) ([.ref a, .int x] : List Value).toArray s 0 0 (inL [a])) (F0 m 5 ls []) := by
    intro n5
    induction n5 with
    | zero => intro i f1 hi hz; exact absurd hz (Nat.not_lt_zero _)
    | succ n5 ih5 =>
      intro i f1 hi hfu ef1 H locs ls hP hS hl
      refine lv_iload_n hx hb dJ7_fill_53178_5 rfl (lv_at hl 1 rfl) ?_
      refine lv_iload_n hx hb dJ7_fill_53178_6 rfl (lv_at hl 0 rfl) ?_
      refine lv_icmp_ge (tgt := 20) hx hb dJ7_fill_53178_7 (by decide) (fun c7 => ?_) (fun c7 => ?_)
      · skip
        have c7 : n ≤ i := (nI_leI (a := n) (b := i) (by omega) (by omega)).mp c7
        obtain rfl : i = n := by omega
        have hP := hP.cong 0 (fun _ => x) rfl (fun k hk => by rw [ef1]; exact fillTo_at _ _ hk)
        have hP : va_P (dC, dI) vwCl [(a, .inl (cI, i, .inl (fun _ => x)))] H := hP
        exact W.vret hx hb hr (fun t ht hW => ⟨⟨(), rfl, trivial, by rw [ht]; exact hP.sub [0] rfl⟩, hS.F ht⟩) hS.2.2 dJ7_fill_53178_20
      · skip
        have c7 : ¬ n ≤ i := fun z => c7 ((nI_leI (a := n) (b := i) (by omega) (by omega)).mpr z)
        refine lv_aload_n hx hb dJ7_fill_53178_10 rfl (lv_at hl 2 rfl) ?_
        refine lv_iload_n hx hb dJ7_fill_53178_11 rfl (lv_at hl 1 rfl) ?_
        refine lv_iload_n hx hb dJ7_fill_53178_12 rfl (lv_at hl 3 rfl) ?_
        refine wa_iast (D := (dC, dI)) (i := i) (f := f1) hx hb hK hP (hN.D rfl) hS (List.mem_of_getElem? (i := 0) rfl) 0 0 rfl rfl (by omega) (by omega) dJ7_fill_53178_13 (fun H locs hP hS => ?_)
        obtain ⟨f_1, ef_1⟩ : ∃ z, z = upd f1 i x := ⟨_, rfl⟩
        rw [← ef_1] at hP
        have hP : va_P (dC, dI) vwCl [(a, .inl (cI, n, .inl f_1))] H := hP
        refine lv_iinc (v := nI (i + 1)) (lv' := [(2, .int (nI (i + 1))), (3, .int (nI n)), (0, .ref a), (1, .int x)]) hx hb dJ7_fill_53178_14 hl (k := 1) rfl (show nI i + Int32.ofInt 1 = nI (i + 1) from nI_add _ _) (by decide) rfl (fun ls hl => ?_)
        refine lv_goto (tgt := 5) hx hb dJ7_fill_53178_17 (by decide) ?_
        exact ih5 (i + 1) f_1 (by omega) (by omega) (by rw [ef_1, ef1]; exact fillTo_s _ _ _ rfl) _ _ _ hP hS (lv_sub hl [1, 0, 2, 3] rfl)
  exact L5 (n + 1) 0 f (by omega) (Nat.lt_succ_self _) (fillTo_0 _ _).symm _ _ _ hP hS (lv_sub hl [0, 1, 2, 3] rfl)
end
