-- ===== PART A: goes FIRST, ahead of the names: the tables' words, and 'selects' of the private methods out of them =====
/-- a private method of a class that the tables say can be made, by its rows of tables_1 -/
def lw_okq (q : MethodName × Nat) : Prop := (q.1.cls ≠ "java/lang/invoke/MethodHandle" ∧ q.1.cls ≠ "java/lang/invoke/VarHandle") ∧ Cond.instantiable q.1.cls q.2 ∈ tables_1 ∧ Cond.privateMethod q.1 ∈ tables_1 ∧ Cond.instanceMethod q.1 ∈ tables_1
theorem lw_p0 : lw_okq (⟨"java/lang/Throwable", "fillInStackTrace", "(I)Ljava/lang/Throwable;"⟩, 6) := ⟨⟨by decide +kernel, by decide +kernel⟩, List.mem_of_getElem? (i := 292) (by decide +kernel), List.mem_of_getElem? (i := 290) (by decide +kernel), List.mem_of_getElem? (i := 291) (by decide +kernel)⟩
theorem lw_p1 : lw_okq (⟨"GreyReel", "isKeyDue", "()Z"⟩, 14) := ⟨⟨by decide +kernel, by decide +kernel⟩, List.mem_of_getElem? (i := 17) (by decide +kernel), List.mem_of_getElem? (i := 335) (by decide +kernel), List.mem_of_getElem? (i := 336) (by decide +kernel)⟩
theorem lw_p2 : lw_okq (⟨"GreyReel", "refuseIfFull", "()V"⟩, 14) := ⟨⟨by decide +kernel, by decide +kernel⟩, List.mem_of_getElem? (i := 17) (by decide +kernel), List.mem_of_getElem? (i := 343) (by decide +kernel), List.mem_of_getElem? (i := 344) (by decide +kernel)⟩
theorem lw_p3 : lw_okq (⟨"GreyReel", "draftNext", "(I)V"⟩, 14) := ⟨⟨by decide +kernel, by decide +kernel⟩, List.mem_of_getElem? (i := 17) (by decide +kernel), List.mem_of_getElem? (i := 363) (by decide +kernel), List.mem_of_getElem? (i := 364) (by decide +kernel)⟩
theorem lw_p4 : lw_okq (⟨"GreyReel", "pictureOrNull", "(I)LGreyReel$Picture;"⟩, 14) := ⟨⟨by decide +kernel, by decide +kernel⟩, List.mem_of_getElem? (i := 17) (by decide +kernel), List.mem_of_getElem? (i := 367) (by decide +kernel), List.mem_of_getElem? (i := 368) (by decide +kernel)⟩
theorem lw_p5 : lw_okq (⟨"GreyReel$Coder", "codeBlock", "(LGreyReel$Picture;[II)V"⟩, 5) := ⟨⟨by decide +kernel, by decide +kernel⟩, List.mem_of_getElem? (i := 27) (by decide +kernel), List.mem_of_getElem? (i := 388) (by decide +kernel), List.mem_of_getElem? (i := 389) (by decide +kernel)⟩
theorem lw_p6 : lw_okq (⟨"GreyReel$Coder", "seekVector", "(LGreyReel$Picture;[II)V"⟩, 5) := ⟨⟨by decide +kernel, by decide +kernel⟩, List.mem_of_getElem? (i := 27) (by decide +kernel), List.mem_of_getElem? (i := 393) (by decide +kernel), List.mem_of_getElem? (i := 394) (by decide +kernel)⟩
theorem lw_p7 : lw_okq (⟨"GreyReel$Coder", "tryVector", "(LGreyReel$Picture;[IIII)V"⟩, 5) := ⟨⟨by decide +kernel, by decide +kernel⟩, List.mem_of_getElem? (i := 27) (by decide +kernel), List.mem_of_getElem? (i := 397) (by decide +kernel), List.mem_of_getElem? (i := 398) (by decide +kernel)⟩
theorem lw_p8 : lw_okq (⟨"GreyReel$Studio", "startAhead", "(III)I"⟩, 4) := ⟨⟨by decide +kernel, by decide +kernel⟩, List.mem_of_getElem? (i := 33) (by decide +kernel), List.mem_of_getElem? (i := 419) (by decide +kernel), List.mem_of_getElem? (i := 420) (by decide +kernel)⟩
theorem lw_p9 : lw_okq (⟨"GreyReel$Studio", "between", "(III)I"⟩, 4) := ⟨⟨by decide +kernel, by decide +kernel⟩, List.mem_of_getElem? (i := 33) (by decide +kernel), List.mem_of_getElem? (i := 426) (by decide +kernel), List.mem_of_getElem? (i := 427) (by decide +kernel)⟩
theorem lw_p10 : lw_okq (⟨"GreyReel$Coder", "take", "(IIII)V"⟩, 5) := ⟨⟨by decide +kernel, by decide +kernel⟩, List.mem_of_getElem? (i := 27) (by decide +kernel), List.mem_of_getElem? (i := 431) (by decide +kernel), List.mem_of_getElem? (i := 432) (by decide +kernel)⟩
theorem lw_p11 : lw_okq (⟨"GreyReel$Coder", "tryKind", "(I[III)V"⟩, 5) := ⟨⟨by decide +kernel, by decide +kernel⟩, List.mem_of_getElem? (i := 27) (by decide +kernel), List.mem_of_getElem? (i := 436) (by decide +kernel), List.mem_of_getElem? (i := 437) (by decide +kernel)⟩
theorem lw_p12 : lw_okq (⟨"GreyReel$Studio", "foretellMoved", "(III)V"⟩, 4) := ⟨⟨by decide +kernel, by decide +kernel⟩, List.mem_of_getElem? (i := 33) (by decide +kernel), List.mem_of_getElem? (i := 444) (by decide +kernel), List.mem_of_getElem? (i := 445) (by decide +kernel)⟩
theorem lw_p13 : lw_okq (⟨"GreyReel$Studio", "foretellFlat", "(I)V"⟩, 4) := ⟨⟨by decide +kernel, by decide +kernel⟩, List.mem_of_getElem? (i := 33) (by decide +kernel), List.mem_of_getElem? (i := 448) (by decide +kernel), List.mem_of_getElem? (i := 449) (by decide +kernel)⟩
theorem lw_p14 : lw_okq (⟨"GreyReel$Studio", "foretellLeft", "(I)V"⟩, 4) := ⟨⟨by decide +kernel, by decide +kernel⟩, List.mem_of_getElem? (i := 33) (by decide +kernel), List.mem_of_getElem? (i := 454) (by decide +kernel), List.mem_of_getElem? (i := 455) (by decide +kernel)⟩
theorem lw_p15 : lw_okq (⟨"GreyReel$Studio", "foretellTrend", "(I)V"⟩, 4) := ⟨⟨by decide +kernel, by decide +kernel⟩, List.mem_of_getElem? (i := 33) (by decide +kernel), List.mem_of_getElem? (i := 458) (by decide +kernel), List.mem_of_getElem? (i := 459) (by decide +kernel)⟩
def lw_privs_1 : List (MethodName × Nat) := [(⟨"java/lang/Throwable", "fillInStackTrace", "(I)Ljava/lang/Throwable;"⟩, 6), (⟨"GreyReel", "isKeyDue", "()Z"⟩, 14), (⟨"GreyReel", "refuseIfFull", "()V"⟩, 14), (⟨"GreyReel", "draftNext", "(I)V"⟩, 14), (⟨"GreyReel", "pictureOrNull", "(I)LGreyReel$Picture;"⟩, 14), (⟨"GreyReel$Coder", "codeBlock", "(LGreyReel$Picture;[II)V"⟩, 5), (⟨"GreyReel$Coder", "seekVector", "(LGreyReel$Picture;[II)V"⟩, 5), (⟨"GreyReel$Coder", "tryVector", "(LGreyReel$Picture;[IIII)V"⟩, 5), (⟨"GreyReel$Studio", "startAhead", "(III)I"⟩, 4), (⟨"GreyReel$Studio", "between", "(III)I"⟩, 4), (⟨"GreyReel$Coder", "take", "(IIII)V"⟩, 5), (⟨"GreyReel$Coder", "tryKind", "(I[III)V"⟩, 5), (⟨"GreyReel$Studio", "foretellMoved", "(III)V"⟩, 4), (⟨"GreyReel$Studio", "foretellFlat", "(I)V"⟩, 4), (⟨"GreyReel$Studio", "foretellLeft", "(I)V"⟩, 4), (⟨"GreyReel$Studio", "foretellTrend", "(I)V"⟩, 4)]
theorem lw_r1 : ∀ q ∈ lw_privs_1, lw_okq q := List.forall_mem_cons.mpr ⟨lw_p0, List.forall_mem_cons.mpr ⟨lw_p1, List.forall_mem_cons.mpr ⟨lw_p2, List.forall_mem_cons.mpr ⟨lw_p3, List.forall_mem_cons.mpr ⟨lw_p4, List.forall_mem_cons.mpr ⟨lw_p5, List.forall_mem_cons.mpr ⟨lw_p6, List.forall_mem_cons.mpr ⟨lw_p7, List.forall_mem_cons.mpr ⟨lw_p8, List.forall_mem_cons.mpr ⟨lw_p9, List.forall_mem_cons.mpr ⟨lw_p10, List.forall_mem_cons.mpr ⟨lw_p11, List.forall_mem_cons.mpr ⟨lw_p12, List.forall_mem_cons.mpr ⟨lw_p13, List.forall_mem_cons.mpr ⟨lw_p14, List.forall_mem_cons.mpr ⟨lw_p15, fun _ h => absurd h List.not_mem_nil⟩⟩⟩⟩⟩⟩⟩⟩⟩⟩⟩⟩⟩⟩⟩⟩
theorem lw_p16 : lw_okq (⟨"GreyReel$Studio", "turnQuarter", "()V"⟩, 4) := ⟨⟨by decide +kernel, by decide +kernel⟩, List.mem_of_getElem? (i := 33) (by decide +kernel), List.mem_of_getElem? (i := 480) (by decide +kernel), List.mem_of_getElem? (i := 481) (by decide +kernel)⟩
theorem lw_p17 : lw_okq (⟨"GreyReel$Studio", "turnFour", "(II)V"⟩, 4) := ⟨⟨by decide +kernel, by decide +kernel⟩, List.mem_of_getElem? (i := 33) (by decide +kernel), List.mem_of_getElem? (i := 484) (by decide +kernel), List.mem_of_getElem? (i := 485) (by decide +kernel)⟩
theorem lw_p18 : lw_okq (⟨"GreyReel$Studio", "smoothAcross", "(III)V"⟩, 4) := ⟨⟨by decide +kernel, by decide +kernel⟩, List.mem_of_getElem? (i := 33) (by decide +kernel), List.mem_of_getElem? (i := 501) (by decide +kernel), List.mem_of_getElem? (i := 502) (by decide +kernel)⟩
theorem lw_p19 : lw_okq (⟨"GreyReel$PacketWriter", "startBand", "(LGreyReel$Picture;)V"⟩, 4) := ⟨⟨by decide +kernel, by decide +kernel⟩, List.mem_of_getElem? (i := 73) (by decide +kernel), List.mem_of_getElem? (i := 518) (by decide +kernel), List.mem_of_getElem? (i := 519) (by decide +kernel)⟩
theorem lw_p20 : lw_okq (⟨"GreyReel$PacketWriter", "put", "(II)V"⟩, 4) := ⟨⟨by decide +kernel, by decide +kernel⟩, List.mem_of_getElem? (i := 73) (by decide +kernel), List.mem_of_getElem? (i := 522) (by decide +kernel), List.mem_of_getElem? (i := 523) (by decide +kernel)⟩
theorem lw_p21 : lw_okq (⟨"GreyReel$PacketWriter", "writeBlock", "(LGreyReel$Picture;I)V"⟩, 4) := ⟨⟨by decide +kernel, by decide +kernel⟩, List.mem_of_getElem? (i := 73) (by decide +kernel), List.mem_of_getElem? (i := 526) (by decide +kernel), List.mem_of_getElem? (i := 527) (by decide +kernel)⟩
theorem lw_p22 : lw_okq (⟨"GreyReel$PacketWriter", "writeKind", "(I)V"⟩, 4) := ⟨⟨by decide +kernel, by decide +kernel⟩, List.mem_of_getElem? (i := 73) (by decide +kernel), List.mem_of_getElem? (i := 530) (by decide +kernel), List.mem_of_getElem? (i := 531) (by decide +kernel)⟩
theorem lw_p23 : lw_okq (⟨"GreyReel$PacketWriter", "putOnes", "(I)V"⟩, 4) := ⟨⟨by decide +kernel, by decide +kernel⟩, List.mem_of_getElem? (i := 73) (by decide +kernel), List.mem_of_getElem? (i := 534) (by decide +kernel), List.mem_of_getElem? (i := 535) (by decide +kernel)⟩
theorem lw_p24 : lw_okq (⟨"GreyReel$PacketWriter", "writeSigned", "(I)V"⟩, 4) := ⟨⟨by decide +kernel, by decide +kernel⟩, List.mem_of_getElem? (i := 73) (by decide +kernel), List.mem_of_getElem? (i := 539) (by decide +kernel), List.mem_of_getElem? (i := 540) (by decide +kernel)⟩
theorem lw_p25 : lw_okq (⟨"GreyReel$PacketWriter", "writeLevels", "([II)V"⟩, 4) := ⟨⟨by decide +kernel, by decide +kernel⟩, List.mem_of_getElem? (i := 73) (by decide +kernel), List.mem_of_getElem? (i := 547) (by decide +kernel), List.mem_of_getElem? (i := 548) (by decide +kernel)⟩
theorem lw_p26 : lw_okq (⟨"GreyReel$PacketWriter", "writeNumber", "(II)V"⟩, 4) := ⟨⟨by decide +kernel, by decide +kernel⟩, List.mem_of_getElem? (i := 73) (by decide +kernel), List.mem_of_getElem? (i := 551) (by decide +kernel), List.mem_of_getElem? (i := 552) (by decide +kernel)⟩
theorem lw_p27 : lw_okq (⟨"GreyReel", "steer", "(LGreyReel$Picture;)V"⟩, 14) := ⟨⟨by decide +kernel, by decide +kernel⟩, List.mem_of_getElem? (i := 17) (by decide +kernel), List.mem_of_getElem? (i := 587) (by decide +kernel), List.mem_of_getElem? (i := 588) (by decide +kernel)⟩
theorem lw_p28 : lw_okq (⟨"GreyReel", "pictureAt", "(I)LGreyReel$Picture;"⟩, 14) := ⟨⟨by decide +kernel, by decide +kernel⟩, List.mem_of_getElem? (i := 17) (by decide +kernel), List.mem_of_getElem? (i := 603) (by decide +kernel), List.mem_of_getElem? (i := 604) (by decide +kernel)⟩
theorem lw_p29 : lw_okq (⟨"GreyReel", "handOver", "(LGreyReel$Picture;I)Z"⟩, 14) := ⟨⟨by decide +kernel, by decide +kernel⟩, List.mem_of_getElem? (i := 17) (by decide +kernel), List.mem_of_getElem? (i := 638) (by decide +kernel), List.mem_of_getElem? (i := 639) (by decide +kernel)⟩
theorem lw_p30 : lw_okq (⟨"GreyReel$Viewer", "conceal", "(LGreyReel$Picture;I)V"⟩, 3) := ⟨⟨by decide +kernel, by decide +kernel⟩, List.mem_of_getElem? (i := 92) (by decide +kernel), List.mem_of_getElem? (i := 654) (by decide +kernel), List.mem_of_getElem? (i := 655) (by decide +kernel)⟩
theorem lw_p31 : lw_okq (⟨"GreyReel$Picture", "digestPacket", "(JI)J"⟩, 14) := ⟨⟨by decide +kernel, by decide +kernel⟩, List.mem_of_getElem? (i := 115) (by decide +kernel), List.mem_of_getElem? (i := 726) (by decide +kernel), List.mem_of_getElem? (i := 727) (by decide +kernel)⟩
def lw_privs_2 : List (MethodName × Nat) := [(⟨"GreyReel$Studio", "turnQuarter", "()V"⟩, 4), (⟨"GreyReel$Studio", "turnFour", "(II)V"⟩, 4), (⟨"GreyReel$Studio", "smoothAcross", "(III)V"⟩, 4), (⟨"GreyReel$PacketWriter", "startBand", "(LGreyReel$Picture;)V"⟩, 4), (⟨"GreyReel$PacketWriter", "put", "(II)V"⟩, 4), (⟨"GreyReel$PacketWriter", "writeBlock", "(LGreyReel$Picture;I)V"⟩, 4), (⟨"GreyReel$PacketWriter", "writeKind", "(I)V"⟩, 4), (⟨"GreyReel$PacketWriter", "putOnes", "(I)V"⟩, 4), (⟨"GreyReel$PacketWriter", "writeSigned", "(I)V"⟩, 4), (⟨"GreyReel$PacketWriter", "writeLevels", "([II)V"⟩, 4), (⟨"GreyReel$PacketWriter", "writeNumber", "(II)V"⟩, 4), (⟨"GreyReel", "steer", "(LGreyReel$Picture;)V"⟩, 14), (⟨"GreyReel", "pictureAt", "(I)LGreyReel$Picture;"⟩, 14), (⟨"GreyReel", "handOver", "(LGreyReel$Picture;I)Z"⟩, 14), (⟨"GreyReel$Viewer", "conceal", "(LGreyReel$Picture;I)V"⟩, 3), (⟨"GreyReel$Picture", "digestPacket", "(JI)J"⟩, 14)]
theorem lw_r2 : ∀ q ∈ lw_privs_2, lw_okq q := List.forall_mem_cons.mpr ⟨lw_p16, List.forall_mem_cons.mpr ⟨lw_p17, List.forall_mem_cons.mpr ⟨lw_p18, List.forall_mem_cons.mpr ⟨lw_p19, List.forall_mem_cons.mpr ⟨lw_p20, List.forall_mem_cons.mpr ⟨lw_p21, List.forall_mem_cons.mpr ⟨lw_p22, List.forall_mem_cons.mpr ⟨lw_p23, List.forall_mem_cons.mpr ⟨lw_p24, List.forall_mem_cons.mpr ⟨lw_p25, List.forall_mem_cons.mpr ⟨lw_p26, List.forall_mem_cons.mpr ⟨lw_p27, List.forall_mem_cons.mpr ⟨lw_p28, List.forall_mem_cons.mpr ⟨lw_p29, List.forall_mem_cons.mpr ⟨lw_p30, List.forall_mem_cons.mpr ⟨lw_p31, fun _ h => absurd h List.not_mem_nil⟩⟩⟩⟩⟩⟩⟩⟩⟩⟩⟩⟩⟩⟩⟩⟩
def lw_privs : List (MethodName × Nat) := lw_privs_1 ++ (lw_privs_2)
def lw_tbl : List Cond := k2_sels lw_privs ++ tables_1
theorem lw_privs_ok : ∀ q ∈ lw_privs, lw_okq q := by
  show ∀ q ∈ lw_privs_1 ++ (lw_privs_2), lw_okq q
  exact List.forall_mem_append.mpr ⟨lw_r1, lw_r2⟩
/-- the streams that the claim lets the run draw from -/
abbrev lw_cs : List Choice := [Jvm.Choice.named "NaN.bits"]
theorem lw_bits : nanBits ∈ lw_cs := by first | decide | exact List.mem_cons_self | simp [lw_cs, nanBits]
/-! ===== BEGIN words of one list among another's, by their places ===== -/
theorem goodIn_r {big : List Cond} (ws : List Cond) (ps : List Nat) (hp : ws = ps.filterMap (fun i => big[i]?)) (h : ws.all goodWord = true) : GoodIn big ws := by
  intro w hw
  have h1 := List.all_eq_true.mp h w hw
  rw [hp] at hw
  obtain ⟨i, -, hi⟩ := List.mem_filterMap.mp hw
  have hm : w ∈ big := by first | exact List.mem_of_getElem? hi | exact List.getElem?_mem hi
  exact ⟨hm, good_of_word h1⟩
theorem goodIn_app {big a b : List Cond} (ha : GoodIn big a) (hb : GoodIn big b) : GoodIn big (a ++ b) := fun w h => (List.mem_append.mp h).elim (ha w) (hb w)
theorem goodIn_ca {big a b : List Cond} {c : Cond} (ha : GoodIn big (c :: a)) (hb : GoodIn big b) : GoodIn big (c :: (a ++ b)) := fun w h => (List.mem_cons.mp h).elim (fun e => ha w (List.mem_cons.mpr (Or.inl e))) (fun h => (List.mem_append.mp h).elim (fun h => ha w (List.mem_cons.mpr (Or.inr h))) (hb w))
theorem goodIn_sub {big ws : List Cond} (hm : ∀ w ∈ ws, w ∈ big) (h : ws.all goodWord = true) : GoodIn big ws := fun w hw => ⟨hm w hw, good_of_word (List.all_eq_true.mp h w hw)⟩
/-! ===== END ===== -/

/-! ===== BEGIN exceptions that leave a method, and their catching by the caller (launches without stack traces) ===== -/
section VXA
/-! The laws vx_back, vx_callV, vx_callS, vx_callSW, vx_throw0, vx_throwS follow proofs of the library, with one case more: JvmDerived/Free/Laws.lean (Back.of_free), Shelf42/LK1.lean (callV, callS), Shelf/KitTraced.lean (throwNew0V, throwNewS). -/
/-- where a method has thrown q: the class by its name, the cell, what was written, the world -/
def vx_T (XC : String → State → State → Prop) (st : State) (q : Addr) (t : State) (mc ms : Nat) (free : Addr → Prop) : Prop :=
  ∃ (E : String) (ce : Cell) (L : List Loc), XC E st t ∧ t.heap[q]? = some ce ∧ ce.vm = .none ∧ st.vm.findClass E = some ce.cls ∧ st.WarmedH t.vm ∧ st.sameButNew ({ t with vm := st.vm } : State) L mc ms ∧ ∀ z ∈ L, free z.base
def vx_Q (Qc : Array Value → State → Outcome → State → Prop) (XC : String → State → State → Prop) (mc ms : Nat) (free : Addr → Prop) : Array Value → State → Outcome → State → Prop := fun a st o t =>
  (Qc a st o t ∧ ∃ L, FrameEnd st o t L mc ms ∧ ∀ q ∈ L, free q.base) ∨ ∃ q, o = .threw q ∧ vx_T XC st q t mc ms free
/-- a callee that returns or throws -/
def vx_Met (l : Launch) (y : MethodName) (ws : List Cond) (rm : Room) (Pc : Array Value → State → Prop) (Qc : Array Value → State → Outcome → State → Prop) (XC : String → State → State → Prop) (mc ms : Nat) (free : Addr → Prop) : Prop :=
  MetFree l y (headSpec ws rm) Pc (fun _ _ _ _ _ => True) (vx_Q Qc XC mc ms free)
def vx_Post (XC : String → State → State → Prop) (mc ms : Nat) (free : Addr → Prop) : Pt → Array Value → Addr → Pt → Prop := fun A a q B =>
  ∃ (g : JFrame) (mk : MethodId) (t : State) (L : List Loc) (E : String) (ce : Cell), B.U.heap = t.heap ∧ B.U.vm = t.vm ∧ XC E (A.U.calling g mk a) t ∧ t.heap[q]? = some ce ∧ ce.vm = .none ∧ A.U.vm.findClass E = some ce.cls ∧ B.locs = A.locs ++ L ∧ (∀ z ∈ L, free z.base) ∧ B.cells = A.cells + mc ∧ B.slots = A.slots + ms
def vx_Back (l : Launch) (R : Room) (p : Program) (e : Env) (below : List Frame) (s : State) (sargs : Array Value) (y : MethodName) (len W9 : Nat)
    (Pre : Pt → Array Value → Prop) (Post : Pt → Array Value → Option Value → Pt → Prop) (PostX : Pt → Array Value → Addr → Pt → Prop) : Prop :=
  ∀ (m : MethodId) (meth : Method) (c : Code) (A : Pt) (g : JFrame) (ig : Instr) (mk : MethodId) (a : Array Value),
    Stand p l e R s m sargs below meth c A.U A.locs A.cells A.slots → g.method = m → g.locals.size = c.maxLocals → decode c.code g.pc = .ok (ig, len) →
    2 * g.monitorRoom + (g.stack.map fun v => v.category).sum ≤ W9 → A.U.methodNamed? y = some mk → Pre A a →
    (∃ (v : Option Value) (B : Pt), Stand p l e R s m sargs below meth c B.U B.locs B.cells B.slots ∧ Post A a v B ∧
      Steps p.tables e below (doInvoke e (A.U.setTop g) [] mk a).1 (B.U.setTop { g with pc := g.pc + len, stack := v.toList ++ g.stack })) ∨
    (∃ (q : Addr) (B : Pt), Stand p l e R s m sargs below meth c B.U B.locs B.cells B.slots ∧ PostX A a q B ∧
      Steps p.tables e below (doInvoke e (A.U.setTop g) [] mk a).1 ((B.U.setTop g).pushFrame (.throwing q)))
section Payer
variable {l : Launch} {R : Room} {p : Program} {e : Env} {below : List Frame} {s : State} {sargs : Array Value} {y : MethodName} {len W9 : Nat}
theorem vx_back {ws : List Cond} {rm : Room} {Pc : Array Value → State → Prop} {Qc : Array Value → State → Outcome → State → Prop} {XC : String → State → State → Prop} {mc ms : Nat} {free : Addr → Prop} {bytes : ByteArray} {maxL : Nat} {ret : Option FieldType}
    (hM : vx_Met l y ws rm Pc Qc XC mc ms free) (hblind : FrameBlind Pc) (hrc : rm.cells = mc) (hrs : rm.slots = ms)
    (hframes : rm.frames + 1 ≤ R.frames) (hlocals : W9 + (maxL + 11) + rm.locals ≤ R.locals)
    (hws : ∀ w ∈ ws, ∀ a' U, s.WarmedH U.vm → w.before a' U = true) (hcode : Cond.code y bytes maxL ret ∈ ws) (hinit : ∀ a' U, s.WarmedH U.vm → (Cond.initialized y.cls).before a' U = true) :
    vx_Back l R p e below s sargs y len W9 (PreOf R mc ms Pc) (PostOf Qc mc ms free) (vx_Post XC mc ms free) := by
  intro m meth c A g ig mk a X hg hsize hdg hW hn hp
  have h1 : (headSpec ws rm).pre.before a A.U = true := atoms_intro fun w hw => hws w hw _ _ X.warmed
  have h2 : (Cond.code y bytes maxL ret).before a A.U = true := hws _ hcode _ _ X.warmed
  have h3 : (Cond.initialized y.cls).before a A.U = true := hinit _ _ X.warmed
  have h4 : A.cells + (headSpec ws rm).room.cells ≤ R.cells := by rw [show (headSpec ws rm).room.cells = mc from hrc]; exact hp.1
  have h5 : A.slots + (headSpec ws rm).room.slots ≤ R.slots := by rw [show (headSpec ws rm).room.slots = ms from hrs]; exact hp.2.1
  have hPc : Pc a (A.U.calling g mk a) := hblind _ _ _ _ hp.2.2
  obtain ⟨U, Ls, c0, s0⟩ := A
  dsimp only [Pt.U, Pt.locs, Pt.cells, Pt.slots] at h1 h2 h3 h4 h5 X hn hPc ⊢
  obtain ⟨methY, cY, hmY, hcY, -, hlY, -, -, -, -⟩ := Cond.code_spec hn h2
  obtain ⟨kY, hkY, -⟩ := className_of_methodNamed hn
  have hinitY : kY.init = .initialized := Cond.initialized_spec (findClass_of_methodNamed hn) hkY h3
  have h : At U g.method c below := by rw [hg]; exact X.here
  have hlocals9 : W9 + (maxL + 11) + (headSpec ws rm).room.locals ≤ R.locals := hlocals
  have happ : (headSpec ws rm).appliesLoose y e.platform (U.calling g mk a) = true :=
    Spec.appliesLoose_calling (g := g) h hdg hn hkY hinitY
      (X.room_calling (g := g) (R' := (headSpec ws rm).room) hsize hmY hcY hframes (by rw [hlY]; omega) h4 h5) h1
  obtain ⟨mid, hmid⟩ := h.above
  have hfr : (U.setTop g).frames = (.java g :: mid) ++ below := by rw [State.frames_setTop' g h.top, hmid]; rfl
  obtain ⟨o, s₂, hsteps, -, hend, hq⟩ := Steps.callFree hM p X.admits X.cas X.clock (acts := []) hfr happ hPc trivial
  have hq' : vx_Q Qc XC mc ms free a (U.calling g mk a) o s₂ := hq
  rw [State.frames_setTop' g h.top] at hend
  obtain ⟨g₀, hg0⟩ := Option.isSome_iff_exists.mp h.top
  obtain ⟨r, hr⟩ := State.topJava?_eq_some.mp hg0
  have hr' : (({ U with heap := s₂.heap, slotsUsed := s₂.slotsUsed } : State).setVm s₂.vm).frames = .java g₀ :: r := hr
  rcases hq' with ⟨hqc, L, hfe, hL⟩ | ⟨q, rfl, E, ce, L, hx, hce, hcv, hcl, hW₂, hsm, hL⟩
  · obtain ⟨⟨v, rfl⟩, hW₂, e2, q2, q3, q4, q5, q6⟩ := id hfe
    have e3 : s₂ = ({ (U.calling g mk a).setFrames s₂.frames with heap := s₂.heap, slotsUsed := s₂.slotsUsed } : State).setVm s₂.vm := by
      have : s₂ = ({ s₂ with vm := (U.calling g mk a).vm } : State).setVm s₂.vm := rfl
      rw [e2] at this
      exact this
    obtain ⟨c₂, i₂, len₂, hc₂, hd₂, hf₂⟩ := hend
    have hW' : U.WarmedH s₂.vm := hW₂
    have hcc : c₂ = c := by
      have h1 : s₂.code? g.method = U.code? g.method := by
        rw [State.code?_eq, State.code?_eq, hW'.alike.method?]
      exact Option.some.inj (hc₂.symm.trans (h1.trans h.code))
    subst hcc
    have hlen : len₂ = len := by rw [hdg] at hd₂; cases hd₂; rfl
    subst hlen
    have hs₂ : s₂ = (({ U with heap := s₂.heap, slotsUsed := s₂.slotsUsed } : State).setVm s₂.vm).setTop { g with pc := g.pc + len₂, stack := v.toList ++ g.stack } := by
      refine e3.trans ?_
      rw [hf₂, State.calling_eq h.top, State.setFrames_setFrames, State.setTop_of_frames _ hr', hr]
      rfl
    have hsame : U.sameButNew ({ U with heap := s₂.heap, slotsUsed := s₂.slotsUsed } : State) L mc ms := by
      refine ⟨?_, q2, q3, q4, q5, q6⟩
      obtain ⟨t, ht, -⟩ := State.frames_cons hr
      show ({ U with heap := s₂.heap, slotsUsed := s₂.slotsUsed } : State) = { U.setFrames U.frames with heap := s₂.heap, slotsUsed := s₂.slotsUsed }
      rw [State.setFrames_self ht]
    subst hg
    refine Or.inl ⟨v, ⟨(({ U with heap := s₂.heap, slotsUsed := s₂.slotsUsed } : State).setVm s₂.vm), Ls ++ L, c0 + mc, s0 + ms⟩,
      ⟨X.admits, X.cas, X.clock, X.frames, X.room, X.hears, X.method, X.code, (X.here.setHeapUsed s₂.heap s₂.slotsUsed).setVm hW'.alike, X.tail, State.WarmedH.trans X.warmed hW', X.limits, X.bytes, X.same.trans (hsame.setVm s.vm)⟩,
      ⟨g, mk, s₂, L, rfl, rfl, hqc, rfl, hL, rfl, rfl⟩, ?_⟩
    show Steps p.tables e below _ ((({ U with heap := s₂.heap, slotsUsed := s₂.slotsUsed } : State).setVm s₂.vm).setTop { g with pc := g.pc + len₂, stack := v.toList ++ g.stack })
    rw [← hs₂]
    exact hsteps
  · obtain ⟨e2, q2, q3, q4, q5, q6⟩ := id hsm
    have e3 : s₂ = ({ (U.calling g mk a).setFrames s₂.frames with heap := s₂.heap, slotsUsed := s₂.slotsUsed } : State).setVm s₂.vm := by
      have : s₂ = ({ s₂ with vm := (U.calling g mk a).vm } : State).setVm s₂.vm := rfl
      rw [e2] at this
      exact this
    have hf₂ : s₂.frames = .throwing q :: .java g :: U.frames.tail := hend
    have hW' : U.WarmedH s₂.vm := hW₂
    have hs₂ : s₂ = ((({ U with heap := s₂.heap, slotsUsed := s₂.slotsUsed } : State).setVm s₂.vm).setTop g).pushFrame (.throwing q) := by
      refine e3.trans ?_
      rw [hf₂, State.calling_eq h.top, State.setFrames_setFrames, State.pushFrame, State.frames_setTop _ hr', State.setTop_of_frames _ hr', State.setFrames_setFrames, hr]
      rfl
    have hsame : U.sameButNew ({ U with heap := s₂.heap, slotsUsed := s₂.slotsUsed } : State) L mc ms := by
      refine ⟨?_, q2, q3, q4, q5, q6⟩
      obtain ⟨t, ht, -⟩ := State.frames_cons hr
      show ({ U with heap := s₂.heap, slotsUsed := s₂.slotsUsed } : State) = { U.setFrames U.frames with heap := s₂.heap, slotsUsed := s₂.slotsUsed }
      rw [State.setFrames_self ht]
    subst hg
    refine Or.inr ⟨q, ⟨(({ U with heap := s₂.heap, slotsUsed := s₂.slotsUsed } : State).setVm s₂.vm), Ls ++ L, c0 + mc, s0 + ms⟩,
      ⟨X.admits, X.cas, X.clock, X.frames, X.room, X.hears, X.method, X.code, (X.here.setHeapUsed s₂.heap s₂.slotsUsed).setVm hW'.alike, X.tail, State.WarmedH.trans X.warmed hW', X.limits, X.bytes, X.same.trans (hsame.setVm s.vm)⟩,
      ⟨g, mk, s₂, L, E, ce, rfl, rfl, hx, hce, hcv, hcl, rfl, hL, rfl, rfl⟩, ?_⟩
    show Steps p.tables e below _ (((({ U with heap := s₂.heap, slotsUsed := s₂.slotsUsed } : State).setVm s₂.vm).setTop g).pushFrame (.throwing q))
    rw [← hs₂]
    exact hsteps
end Payer
section Calls
variable {p : Program} {l : Launch} {e : Env} {R : Room} {s : State} {m : MethodId} {args : Array Value} {below : List Frame} {meth : Method} {c : Code} {T : State} {locs : List Loc} {cells slots : Nat}
theorem vx_callV (X : Stand p l e R s m args below meth c T locs cells slots) (hexec : p.tables.exec = Jvm.exec) {own C : String} {index : Nat} {y : MethodName} {bytes : ByteArray} {maxL : Nat} {ret : Option FieldType}
    (hown : s.vm.findClass own = some m.cls) (hlink : (Cond.methodLink own index y).before args s = true) (hinst : (Cond.instanceMethod y).before args s = true) (hsel : (Cond.selects C y y).before args s = true)
    (hcode : (Cond.code y bytes maxL ret).before args s = true) (hy : y.cls ≠ "java/lang/invoke/MethodHandle" ∧ y.cls ≠ "java/lang/invoke/VarHandle")
    {W9 : Nat} {Pre : Pt → Array Value → Prop} {Post : Pt → Array Value → Option Value → Pt → Prop} {PostX : Pt → Array Value → Addr → Pt → Prop} (hK : vx_Back l R p e below s args y 3 W9 Pre Post PostX)
    {b : Addr} {cellB : Cell} (hcell : T.heap[b]? = some cellB) (hobj : cellB.vm.isStatics = false) (hcls : s.vm.findClass C = some cellB.cls)
    {g : JFrame} (hg : g.method = m) (hsize : g.locals.size = c.maxLocals) {argsL rest : List Value} (hlen : ∀ sig, parseMethodDescriptor y.desc = some sig → argsL.length = sig.parameters.length)
    (hstack : g.stack = argsL.reverse ++ .ref b :: rest) (hW : 2 * g.monitorRoom + (rest.map fun v => v.category).sum ≤ W9) (hdg : decode c.code g.pc = .ok (.invokevirtual index, 3))
    (hpre : ∀ vm₁, s.WarmedH vm₁ → Pre ⟨T.setVm vm₁, locs, cells, slots⟩ (Value.ref b :: argsL).toArray) :
    (∃ (v : Option Value) (vm₁ : Vm) (B : Pt), s.WarmedH vm₁ ∧ Stand p l e R s m args below meth c B.U B.locs B.cells B.slots ∧ Post ⟨T.setVm vm₁, locs, cells, slots⟩ (Value.ref b :: argsL).toArray v B ∧
      ∀ target, Steps p.tables e below (B.U.setTop { g with pc := g.pc + 3, stack := v.toList ++ rest }) target → Steps p.tables e below (T.setTop g) target) ∨
    (∃ (q : Addr) (vm₁ : Vm) (B : Pt), s.WarmedH vm₁ ∧ Stand p l e R s m args below meth c B.U B.locs B.cells B.slots ∧ PostX ⟨T.setVm vm₁, locs, cells, slots⟩ (Value.ref b :: argsL).toArray q B ∧
      Steps p.tables e below (T.setTop g) ((B.U.setTop { g with stack := rest }).pushFrame (.throwing q))) := by
  obtain ⟨mk, methM, hnamed, hmethM, hstM, habM⟩ := Cond.instanceMethod_spec hinst
  obtain ⟨methM', cM, hmethM', -, -, -, -, -, -, hsigM⟩ := Cond.code_spec hnamed hcode
  cases hmethM.symm.trans hmethM'
  obtain ⟨c2, r2, m2, q1, q2, q3, q4, kP, hkP, hkPi⟩ := Cond.selects_spec hsel
  cases hcls.symm.trans q1
  cases (State.methodFound?_of_named hnamed hy).symm.trans q2
  cases hnamed.symm.trans q3
  have hselP : selectMethod e.platform s.vm cellB.cls mk = .method mk := by rw [Launch.admits_selectMethod X.admits]; exact q4
  obtain ⟨vm₁, X₁, hstep₁⟩ := X.invokevirtual hexec hown hlink hnamed hmethM hstM hkP hkPi hy (a := b) (cell := cellB) hcell
    (fun z h => by rw [h] at hobj; cases hobj) hselP hmethM habM hkP hkPi (g := g) hg (argsL := argsL) (rest := rest) (hlen _ hsigM) hstack hdg
  rcases hK m meth c ⟨T.setVm vm₁, locs, cells, slots⟩ { g with stack := rest } (.invokevirtual index) mk (Value.ref b :: argsL).toArray X₁ hg hsize hdg hW (X₁.named hnamed) (hpre vm₁ X₁.warmed) with ⟨v, B, X', hpost, hsteps⟩ | ⟨q, B, X', hpost, hsteps⟩
  · exact Or.inl ⟨v, vm₁, B, X₁.warmed, X', hpost, fun target h => hstep₁ _ fun acts => by rw [doInvoke_state]; exact hsteps.trans h⟩
  · exact Or.inr ⟨q, vm₁, B, X₁.warmed, X', hpost, hstep₁ _ fun acts => by rw [doInvoke_state]; exact hsteps⟩
theorem vx_callS (X : Stand p l e R s m args below meth c T locs cells slots) (hexec : p.tables.exec = Jvm.exec) {own : String} {index : Nat} {y : MethodName} {bytes : ByteArray} {maxL : Nat} {ret : Option FieldType}
    (hown : s.vm.findClass own = some m.cls) (hlink : (Cond.methodLink own index y).before args s = true) (hstat : (Cond.static y).before args s = true) (hinit : (Cond.initialized y.cls).before args s = true)
    (hcode : (Cond.code y bytes maxL ret).before args s = true) (hy : y.cls ≠ "java/lang/invoke/MethodHandle" ∧ y.cls ≠ "java/lang/invoke/VarHandle")
    {W9 : Nat} {Pre : Pt → Array Value → Prop} {Post : Pt → Array Value → Option Value → Pt → Prop} {PostX : Pt → Array Value → Addr → Pt → Prop} (hK : vx_Back l R p e below s args y 3 W9 Pre Post PostX)
    {g : JFrame} (hg : g.method = m) (hsize : g.locals.size = c.maxLocals) {argsL rest : List Value} (hlen : ∀ sig, parseMethodDescriptor y.desc = some sig → argsL.length = sig.parameters.length)
    (hstack : g.stack = argsL.reverse ++ rest) (hW : 2 * g.monitorRoom + (rest.map fun v => v.category).sum ≤ W9) (hdg : decode c.code g.pc = .ok (.invokestatic index, 3))
    (hpre : ∀ vm₁, s.WarmedH vm₁ → Pre ⟨T.setVm vm₁, locs, cells, slots⟩ argsL.toArray) :
    (∃ (v : Option Value) (vm₁ : Vm) (B : Pt), s.WarmedH vm₁ ∧ Stand p l e R s m args below meth c B.U B.locs B.cells B.slots ∧ Post ⟨T.setVm vm₁, locs, cells, slots⟩ argsL.toArray v B ∧
      ∀ target, Steps p.tables e below (B.U.setTop { g with pc := g.pc + 3, stack := v.toList ++ rest }) target → Steps p.tables e below (T.setTop g) target) ∨
    (∃ (q : Addr) (vm₁ : Vm) (B : Pt), s.WarmedH vm₁ ∧ Stand p l e R s m args below meth c B.U B.locs B.cells B.slots ∧ PostX ⟨T.setVm vm₁, locs, cells, slots⟩ argsL.toArray q B ∧
      Steps p.tables e below (T.setTop g) ((B.U.setTop { g with stack := rest }).pushFrame (.throwing q))) := by
  obtain ⟨mk, hnamed⟩ := Cond.code_named hcode
  obtain ⟨methM, cM, hmethM, -, -, -, -, -, -, hsigM⟩ := Cond.code_spec hnamed hcode
  have hstatic : methM.isStatic = true := Cond.static_spec hnamed hmethM hstat
  obtain ⟨kP, hkP, -⟩ := className_of_methodNamed hnamed
  have hinitP : kP.init = .initialized := Cond.initialized_spec (findClass_of_methodNamed hnamed) hkP hinit
  obtain ⟨vm₁, X₁, hstep₁⟩ := X.invokestatic hexec hown hlink hnamed hmethM hstatic hkP hinitP hy (g := g) hg (argsL := argsL) (rest := rest) (hlen _ hsigM) hstack hdg
  rcases hK m meth c ⟨T.setVm vm₁, locs, cells, slots⟩ { g with stack := rest } (.invokestatic index) mk argsL.toArray X₁ hg hsize hdg hW (X₁.named hnamed) (hpre vm₁ X₁.warmed) with ⟨v, B, X', hpost, hsteps⟩ | ⟨q, B, X', hpost, hsteps⟩
  · exact Or.inl ⟨v, vm₁, B, X₁.warmed, X', hpost, fun target h => hstep₁ _ fun acts => by rw [doInvoke_state]; exact hsteps.trans h⟩
  · exact Or.inr ⟨q, vm₁, B, X₁.warmed, X', hpost, hstep₁ _ fun acts => by rw [doInvoke_state]; exact hsteps⟩
end Calls
theorem vx_cls {s : State} {T : State} {vm₁ : Vm} {E : String} {k : ClassId} (hW : s.WarmedH vm₁) (h : (T.setVm vm₁).vm.findClass E = some k) : s.vm.findClass E = some k := by
  have h1 : vm₁.findClass E = some k := h
  rw [hW.alike.findClass] at h1
  exact h1
/-- the method's frame g, with q thrown over it -/
def vx_W (p : Program) (l : Launch) (e : Env) (R : Room) (s : State) (m : MethodId) (args : Array Value) (below : List Frame) (meth : Method) (c : Code) (H : Heap) (locs : List Loc) (cells slots : Nat) (Q : State → Prop) (g : JFrame) (q : Addr) : Prop :=
  ∀ T : State, T.heap = H → Stand p l e R s m args below meth c T locs cells slots → ∃ t, Steps p.tables e below ((T.setTop g).pushFrame (.throwing q)) t ∧ Q t
def vx_Run (p : Program) (l : Launch) (e : Env) (R : Room) (s : State) (m : MethodId) (args : Array Value) (below : List Frame) (meth : Method) (c : Code) (H : Heap) (locs : List Loc) (cells slots mc ms : Nat) (g : JFrame) (rest : List Value) (Qa : State → Outcome → State → Prop) (XC : String → State → State → Prop) (free : Addr → Prop) : Prop :=
  ∀ T : State, T.heap = H → Stand p l e R s m args below meth c T locs cells slots →
    (∃ (v : Option Value) (st₀ t T' : State) (L : List Loc), st₀.heap = H ∧ Stand p l e R s m args below meth c T' (locs ++ L) (cells + mc) (slots + ms) ∧ (∀ q ∈ L, free q.base) ∧ T'.heap = t.heap ∧ T'.vm = t.vm ∧ Qa st₀ (.returned v) t ∧
      Goes p e below T g T' { g with pc := g.pc + 3, stack := v.toList ++ rest }) ∨
    (∃ (q : Addr) (st₀ t T' : State) (L : List Loc) (E : String) (ce : Cell), st₀.heap = H ∧ Stand p l e R s m args below meth c T' (locs ++ L) (cells + mc) (slots + ms) ∧ (∀ z ∈ L, free z.base) ∧ T'.heap = t.heap ∧ T'.vm = t.vm ∧ XC E st₀ t ∧ t.heap[q]? = some ce ∧ ce.vm = .none ∧ s.vm.findClass E = some ce.cls ∧
      Steps p.tables e below (T.setTop g) ((T'.setTop { g with stack := rest }).pushFrame (.throwing q)))
def vx_X {S : Type} (px : S → Prop) (B : String → S → State → Prop) (A : Nat → Prop) : String → State → State → Prop := fun E st t => ∃ u : S, px u ∧ B E u t ∧ va_F A st t
section Runs
variable {p : Program} {l : Launch} {e : Env} {R : Room} {s : State} {m : MethodId} {args : Array Value} {below : List Frame} {meth : Method} {c : Code} {H : Heap} {locs : List Loc} {cells slots : Nat}
variable {y : MethodName} {bytes cc : ByteArray} {maxL nL mc ms n index : Nat} {ret : Option FieldType} {ws : List Cond} {rm : Room} {Pc : Array Value → State → Prop} {Qc : Array Value → State → Outcome → State → Prop} {XC : String → State → State → Prop} {free : Addr → Prop} {Ts : List Cond} {own C : String} {b : Addr} {As rest : List Value} {g : JFrame}
theorem vx_callBack (cb : CallB R s args own index y bytes maxL ret ws rm mc ms n) (hM : vx_Met l y ws rm Pc Qc XC mc ms free) (hbl : FrameBlind Pc) : vx_Back l R p e below s args y 3 8 (PreOf R mc ms Pc) (PostOf Qc mc ms free) (vx_Post XC mc ms free) := by
  obtain ⟨hrc, hrs, hfr, hlo, hws, hcw, -, hini, -⟩ := cb
  exact vx_back (bytes := bytes) (maxL := maxL) (ret := ret) hM hbl hrc hrs hfr hlo hws hcw (fun a' U hW => word_at hW (Or.inl (by first | rfl | simp [Cond.onTables, Cond.keeps, Cond.steady])) hini)
theorem vx_runV (S : CallFix p m c cc nL s args Ts own) (hM : vx_Met l y ws rm Pc Qc XC mc ms free) (cw : CallW R s args own C index y bytes maxL ret ws rm mc ms n) (hp : PreV s H C b Pc As)
    (hg : g.method = m) (hn : As.length = n) (hsize : g.locals.size = nL) (hstack : g.stack = As.reverse ++ .ref b :: rest) (hW : 2 * g.monitorRoom + (rest.map fun v => v.category).sum ≤ 8) (hdg : decode cc g.pc = .ok (.invokevirtual index, 3)) (hf : cells + mc ≤ R.cells ∧ slots + ms ≤ R.slots) :
    vx_Run p l e R s m args below meth c H locs cells slots mc ms g rest (Qc (Value.ref b :: As).toArray) XC free := by
  have hK : vx_Back l R p e below s args y 3 8 (PreOf R mc ms Pc) (PostOf Qc mc ms free) (vx_Post XC mc ms free) := vx_callBack cw.1 hM hp.1
  obtain ⟨⟨-, -, -, -, -, -, hcode, -, hy, hlen, hl⟩, hin, hse⟩ := cw
  obtain ⟨hx, hb, hml, ho, -⟩ := S
  obtain ⟨-, ⟨cellB, hcB, hoB, hclB⟩, hPc⟩ := hp
  intro T hT X
  rcases vx_callV X hx (C := C) (bytes := bytes) (maxL := maxL) (ret := ret) ho hl hin hse hcode hy hK (by rw [hT]; exact hcB) hoB hclB hg (hsize.trans hml.symm) (argsL := As) (rest := rest) (fun sig h => hn.trans (hlen sig h)) hstack hW (by rw [hb]; exact hdg)
    (fun vm₁ hW₁ => ⟨hf.1, hf.2, hPc (T.setVm vm₁) hT hW₁⟩) with ⟨v, vm₁, ⟨U', l2, c2, s2⟩, hW₁, X', ⟨g', mk, t, L, e1, e2, hq, h1, hL, h2, h3⟩, st⟩ | ⟨q, vm₁, ⟨U', l2, c2, s2⟩, hW₁, X', ⟨g', mk, t, L, E, ce, e1, e2, hq, hce, hcv, hcl, h1, hL, h2, h3⟩, st⟩
  · dsimp only [Pt.U, Pt.locs, Pt.cells, Pt.slots] at X' e1 e2 h1 h2 h3 st
    subst h1; subst h2; subst h3
    exact Or.inl ⟨v, (T.setVm vm₁).calling g' mk (Value.ref b :: As).toArray, t, U', L, hT, X', hL, e1, e2, hq, st⟩
  · dsimp only [Pt.U, Pt.locs, Pt.cells, Pt.slots] at X' e1 e2 h1 h2 h3 st hcl
    subst h1; subst h2; subst h3
    exact Or.inr ⟨q, (T.setVm vm₁).calling g' mk (Value.ref b :: As).toArray, t, U', L, E, ce, hT, X', hL, e1, e2, hq, hce, hcv, vx_cls hW₁ hcl, st⟩
theorem vx_runS (S : CallFix p m c cc nL s args Ts own) (hM : vx_Met l y ws rm Pc Qc XC mc ms free) (cw : CallB R s args own index y bytes maxL ret ws rm mc ms n ∧ (Cond.static y).before args s = true) (hp : PreS s H Pc As)
    (hg : g.method = m) (hn : As.length = n) (hsize : g.locals.size = nL) (hstack : g.stack = As.reverse ++ rest) (hW : 2 * g.monitorRoom + (rest.map fun v => v.category).sum ≤ 8) (hdg : decode cc g.pc = .ok (.invokestatic index, 3)) (hf : cells + mc ≤ R.cells ∧ slots + ms ≤ R.slots) :
    vx_Run p l e R s m args below meth c H locs cells slots mc ms g rest (Qc As.toArray) XC free := by
  have hK : vx_Back l R p e below s args y 3 8 (PreOf R mc ms Pc) (PostOf Qc mc ms free) (vx_Post XC mc ms free) := vx_callBack cw.1 hM hp.1
  obtain ⟨⟨-, -, -, -, -, -, hcode, hini, hy, hlen, hl⟩, hstt⟩ := cw
  obtain ⟨hx, hb, hml, ho, -⟩ := S
  intro T hT X
  rcases vx_callS X hx (bytes := bytes) (maxL := maxL) (ret := ret) ho hl hstt hini hcode hy hK hg (hsize.trans hml.symm) (argsL := As) (rest := rest) (fun sig h => hn.trans (hlen sig h)) hstack hW (by rw [hb]; exact hdg)
    (fun vm₁ hW₁ => ⟨hf.1, hf.2, hp.2 (T.setVm vm₁) hT hW₁⟩) with ⟨v, vm₁, ⟨U', l2, c2, s2⟩, hW₁, X', ⟨g', mk, t, L, e1, e2, hq, h1, hL, h2, h3⟩, st⟩ | ⟨q, vm₁, ⟨U', l2, c2, s2⟩, hW₁, X', ⟨g', mk, t, L, E, ce, e1, e2, hq, hce, hcv, hcl, h1, hL, h2, h3⟩, st⟩
  · dsimp only [Pt.U, Pt.locs, Pt.cells, Pt.slots] at X' e1 e2 h1 h2 h3 st
    subst h1; subst h2; subst h3
    exact Or.inl ⟨v, (T.setVm vm₁).calling g' mk As.toArray, t, U', L, hT, X', hL, e1, e2, hq, st⟩
  · dsimp only [Pt.U, Pt.locs, Pt.cells, Pt.slots] at X' e1 e2 h1 h2 h3 st hcl
    subst h1; subst h2; subst h3
    exact Or.inr ⟨q, (T.setVm vm₁).calling g' mk As.toArray, t, U', L, E, ce, hT, X', hL, e1, e2, hq, hce, hcv, vx_cls hW₁ hcl, st⟩
end Runs
section Rows
variable {p : Program} {l : Launch} {e : Env} {R : Room} {s : State} {m : MethodId} {args : Array Value} {below : List Frame} {meth : Method} {c : Code} {H : Heap} {locs : List Loc} {cells slots : Nat} {Q : State → Prop}
variable {mc ms : Nat} {free : Addr → Prop} {A0 A1 : Nat → Prop} {H0 : Heap} {a : Array Value} {pc : Nat} {ls : Array Slot} {st0 rest : List Value}
theorem vx_keep {st₀ t T' : State} {L : List Loc} (h0 : st₀.heap = H) (e1 : T'.heap = t.heap) (hS : va_S A0 H0 H locs) (hA : ∀ q, q < H.size → A1 q → A0 q) (hf : ∀ q, free q → A0 q) (hL : ∀ q ∈ L, free q.base) (hF : va_F A1 st₀ t) :
    H.size ≤ T'.heap.size ∧ (∀ q : Nat, q < H.size → ¬ A1 q → T'.heap[q]? = H[q]?) ∧ va_S A0 H0 T'.heap (locs ++ L) := by
  obtain ⟨hz, hk⟩ := hF
  rw [h0] at hz hk
  exact ⟨by rw [e1]; exact hz, fun q h1 h2 => by rw [e1]; exact hk q h1 h2,
    ⟨Nat.le_trans hS.1 (by rw [e1]; exact hz), fun q h1 h2 => by rw [e1, hk q (Nat.lt_of_lt_of_le h1 hS.1) (fun z => h2 (hA q (Nat.lt_of_lt_of_le h1 hS.1) z))]; exact hS.2.1 q h1 h2, fun q hq => by
      rcases List.mem_append.mp hq with h | h
      · exact hS.2.2 q h
      · exact hf _ (hL q h)⟩⟩
theorem vx_calli {S SX : Type} {post : Int32 → S → Prop} {px : SX → Prop} {B : S → State → Prop} {BX : String → SX → State → Prop} {AX : Nat → Prop} (hr : vx_Run p l e R s m args below meth c H locs cells slots mc ms (F0 m pc ls st0) rest (va_Qi post B A1 a) (vx_X px BX AX) free) (hS : va_S A0 H0 H locs) (hA : ∀ q, q < H.size → A1 q → A0 q) (hf : ∀ q, free q → A0 q) (hAX : ∀ q, q < H.size → AX q → A0 q)
    (kx : ∀ (E : String) (ce : Cell) (q9 : Addr) (u : SX) (t : State) (H1 : Heap) (locs1 : List Loc), t.heap = H1 → s.vm.Alike t.vm → px u → BX E u t → H.size ≤ H1.size → (∀ q : Nat, q < H.size → ¬ AX q → H1[q]? = H[q]?) → va_S A0 H0 H1 locs1 → H1[q9]? = some ce → ce.vm = .none → s.vm.findClass E = some ce.cls → vx_W p l e R s m args below meth c H1 locs1 (cells + mc) (slots + ms) Q (F0 m pc ls rest) q9)
    (kk : ∀ (r : Int32) (u : S) (t : State) (H1 : Heap) (locs1 : List Loc), t.heap = H1 → s.vm.Alike t.vm → post r u → B u t → H.size ≤ H1.size → (∀ q : Nat, q < H.size → ¬ A1 q → H1[q]? = H[q]?) → va_S A0 H0 H1 locs1 → W p l e R s m args below meth c H1 locs1 (cells + mc) (slots + ms) Q (F0 m (pc + 3) ls (.int r :: rest))) : W p l e R s m args below meth c H locs cells slots Q (F0 m pc ls st0) := by
  intro T hT X
  rcases hr T hT X with ⟨v, st₀, t, T', L, h0, X', hL, e1, e2, ⟨⟨r, u, hv, hp, hb⟩, hF⟩, st⟩ | ⟨q, st₀, t, T', L, E, ce, h0, X', hL, e1, e2, ⟨u, hp, hb, hF⟩, hce, hcv, hcl, st⟩
  · cases hv
    obtain ⟨k1, k2, k3⟩ := vx_keep h0 e1 hS hA hf hL hF
    obtain ⟨t2, a1, b1⟩ := kk r u t T'.heap (locs ++ L) e1.symm (by rw [← e2]; exact X'.warmed.alike) hp hb k1 k2 k3 T' rfl X'
    exact ⟨t2, st t2 a1, b1⟩
  · obtain ⟨k1, k2, k3⟩ := vx_keep h0 e1 hS hAX hf hL hF
    obtain ⟨t2, a1, b1⟩ := kx E ce q u t T'.heap (locs ++ L) e1.symm (by rw [← e2]; exact X'.warmed.alike) hp hb k1 k2 k3 (by rw [e1]; exact hce) hcv hcl T' rfl X'
    exact ⟨t2, st.trans a1, b1⟩
theorem vx_calll {S SX : Type} {post : Int64 → S → Prop} {px : SX → Prop} {B : S → State → Prop} {BX : String → SX → State → Prop} {AX : Nat → Prop} (hr : vx_Run p l e R s m args below meth c H locs cells slots mc ms (F0 m pc ls st0) rest (va_Ql post B A1 a) (vx_X px BX AX) free) (hS : va_S A0 H0 H locs) (hA : ∀ q, q < H.size → A1 q → A0 q) (hf : ∀ q, free q → A0 q) (hAX : ∀ q, q < H.size → AX q → A0 q)
    (kx : ∀ (E : String) (ce : Cell) (q9 : Addr) (u : SX) (t : State) (H1 : Heap) (locs1 : List Loc), t.heap = H1 → s.vm.Alike t.vm → px u → BX E u t → H.size ≤ H1.size → (∀ q : Nat, q < H.size → ¬ AX q → H1[q]? = H[q]?) → va_S A0 H0 H1 locs1 → H1[q9]? = some ce → ce.vm = .none → s.vm.findClass E = some ce.cls → vx_W p l e R s m args below meth c H1 locs1 (cells + mc) (slots + ms) Q (F0 m pc ls rest) q9)
    (kk : ∀ (r : Int64) (u : S) (t : State) (H1 : Heap) (locs1 : List Loc), t.heap = H1 → s.vm.Alike t.vm → post r u → B u t → H.size ≤ H1.size → (∀ q : Nat, q < H.size → ¬ A1 q → H1[q]? = H[q]?) → va_S A0 H0 H1 locs1 → W p l e R s m args below meth c H1 locs1 (cells + mc) (slots + ms) Q (F0 m (pc + 3) ls (.long r :: rest))) : W p l e R s m args below meth c H locs cells slots Q (F0 m pc ls st0) := by
  intro T hT X
  rcases hr T hT X with ⟨v, st₀, t, T', L, h0, X', hL, e1, e2, ⟨⟨r, u, hv, hp, hb⟩, hF⟩, st⟩ | ⟨q, st₀, t, T', L, E, ce, h0, X', hL, e1, e2, ⟨u, hp, hb, hF⟩, hce, hcv, hcl, st⟩
  · cases hv
    obtain ⟨k1, k2, k3⟩ := vx_keep h0 e1 hS hA hf hL hF
    obtain ⟨t2, a1, b1⟩ := kk r u t T'.heap (locs ++ L) e1.symm (by rw [← e2]; exact X'.warmed.alike) hp hb k1 k2 k3 T' rfl X'
    exact ⟨t2, st t2 a1, b1⟩
  · obtain ⟨k1, k2, k3⟩ := vx_keep h0 e1 hS hAX hf hL hF
    obtain ⟨t2, a1, b1⟩ := kx E ce q u t T'.heap (locs ++ L) e1.symm (by rw [← e2]; exact X'.warmed.alike) hp hb k1 k2 k3 (by rw [e1]; exact hce) hcv hcl T' rfl X'
    exact ⟨t2, st.trans a1, b1⟩
theorem vx_callf {S SX : Type} {post : UInt32 → S → Prop} {px : SX → Prop} {B : S → State → Prop} {BX : String → SX → State → Prop} {AX : Nat → Prop} (hr : vx_Run p l e R s m args below meth c H locs cells slots mc ms (F0 m pc ls st0) rest (va_Qf post B A1 a) (vx_X px BX AX) free) (hS : va_S A0 H0 H locs) (hA : ∀ q, q < H.size → A1 q → A0 q) (hf : ∀ q, free q → A0 q) (hAX : ∀ q, q < H.size → AX q → A0 q)
    (kx : ∀ (E : String) (ce : Cell) (q9 : Addr) (u : SX) (t : State) (H1 : Heap) (locs1 : List Loc), t.heap = H1 → s.vm.Alike t.vm → px u → BX E u t → H.size ≤ H1.size → (∀ q : Nat, q < H.size → ¬ AX q → H1[q]? = H[q]?) → va_S A0 H0 H1 locs1 → H1[q9]? = some ce → ce.vm = .none → s.vm.findClass E = some ce.cls → vx_W p l e R s m args below meth c H1 locs1 (cells + mc) (slots + ms) Q (F0 m pc ls rest) q9)
    (kk : ∀ (r : UInt32) (u : S) (t : State) (H1 : Heap) (locs1 : List Loc), t.heap = H1 → s.vm.Alike t.vm → post r u → B u t → H.size ≤ H1.size → (∀ q : Nat, q < H.size → ¬ A1 q → H1[q]? = H[q]?) → va_S A0 H0 H1 locs1 → W p l e R s m args below meth c H1 locs1 (cells + mc) (slots + ms) Q (F0 m (pc + 3) ls (.float r :: rest))) : W p l e R s m args below meth c H locs cells slots Q (F0 m pc ls st0) := by
  intro T hT X
  rcases hr T hT X with ⟨v, st₀, t, T', L, h0, X', hL, e1, e2, ⟨⟨r, u, hv, hp, hb⟩, hF⟩, st⟩ | ⟨q, st₀, t, T', L, E, ce, h0, X', hL, e1, e2, ⟨u, hp, hb, hF⟩, hce, hcv, hcl, st⟩
  · cases hv
    obtain ⟨k1, k2, k3⟩ := vx_keep h0 e1 hS hA hf hL hF
    obtain ⟨t2, a1, b1⟩ := kk r u t T'.heap (locs ++ L) e1.symm (by rw [← e2]; exact X'.warmed.alike) hp hb k1 k2 k3 T' rfl X'
    exact ⟨t2, st t2 a1, b1⟩
  · obtain ⟨k1, k2, k3⟩ := vx_keep h0 e1 hS hAX hf hL hF
    obtain ⟨t2, a1, b1⟩ := kx E ce q u t T'.heap (locs ++ L) e1.symm (by rw [← e2]; exact X'.warmed.alike) hp hb k1 k2 k3 (by rw [e1]; exact hce) hcv hcl T' rfl X'
    exact ⟨t2, st.trans a1, b1⟩
theorem vx_calld {S SX : Type} {post : UInt64 → S → Prop} {px : SX → Prop} {B : S → State → Prop} {BX : String → SX → State → Prop} {AX : Nat → Prop} (hr : vx_Run p l e R s m args below meth c H locs cells slots mc ms (F0 m pc ls st0) rest (va_Qd post B A1 a) (vx_X px BX AX) free) (hS : va_S A0 H0 H locs) (hA : ∀ q, q < H.size → A1 q → A0 q) (hf : ∀ q, free q → A0 q) (hAX : ∀ q, q < H.size → AX q → A0 q)
    (kx : ∀ (E : String) (ce : Cell) (q9 : Addr) (u : SX) (t : State) (H1 : Heap) (locs1 : List Loc), t.heap = H1 → s.vm.Alike t.vm → px u → BX E u t → H.size ≤ H1.size → (∀ q : Nat, q < H.size → ¬ AX q → H1[q]? = H[q]?) → va_S A0 H0 H1 locs1 → H1[q9]? = some ce → ce.vm = .none → s.vm.findClass E = some ce.cls → vx_W p l e R s m args below meth c H1 locs1 (cells + mc) (slots + ms) Q (F0 m pc ls rest) q9)
    (kk : ∀ (r : UInt64) (u : S) (t : State) (H1 : Heap) (locs1 : List Loc), t.heap = H1 → s.vm.Alike t.vm → post r u → B u t → H.size ≤ H1.size → (∀ q : Nat, q < H.size → ¬ A1 q → H1[q]? = H[q]?) → va_S A0 H0 H1 locs1 → W p l e R s m args below meth c H1 locs1 (cells + mc) (slots + ms) Q (F0 m (pc + 3) ls (.double r :: rest))) : W p l e R s m args below meth c H locs cells slots Q (F0 m pc ls st0) := by
  intro T hT X
  rcases hr T hT X with ⟨v, st₀, t, T', L, h0, X', hL, e1, e2, ⟨⟨r, u, hv, hp, hb⟩, hF⟩, st⟩ | ⟨q, st₀, t, T', L, E, ce, h0, X', hL, e1, e2, ⟨u, hp, hb, hF⟩, hce, hcv, hcl, st⟩
  · cases hv
    obtain ⟨k1, k2, k3⟩ := vx_keep h0 e1 hS hA hf hL hF
    obtain ⟨t2, a1, b1⟩ := kk r u t T'.heap (locs ++ L) e1.symm (by rw [← e2]; exact X'.warmed.alike) hp hb k1 k2 k3 T' rfl X'
    exact ⟨t2, st t2 a1, b1⟩
  · obtain ⟨k1, k2, k3⟩ := vx_keep h0 e1 hS hAX hf hL hF
    obtain ⟨t2, a1, b1⟩ := kx E ce q u t T'.heap (locs ++ L) e1.symm (by rw [← e2]; exact X'.warmed.alike) hp hb k1 k2 k3 (by rw [e1]; exact hce) hcv hcl T' rfl X'
    exact ⟨t2, st.trans a1, b1⟩
theorem vx_callv {S SX : Type} {post : S → Prop} {px : SX → Prop} {B : S → State → Prop} {BX : String → SX → State → Prop} {AX : Nat → Prop} (hr : vx_Run p l e R s m args below meth c H locs cells slots mc ms (F0 m pc ls st0) rest (va_Qv post B A1 a) (vx_X px BX AX) free) (hS : va_S A0 H0 H locs) (hA : ∀ q, q < H.size → A1 q → A0 q) (hf : ∀ q, free q → A0 q) (hAX : ∀ q, q < H.size → AX q → A0 q)
    (kx : ∀ (E : String) (ce : Cell) (q9 : Addr) (u : SX) (t : State) (H1 : Heap) (locs1 : List Loc), t.heap = H1 → s.vm.Alike t.vm → px u → BX E u t → H.size ≤ H1.size → (∀ q : Nat, q < H.size → ¬ AX q → H1[q]? = H[q]?) → va_S A0 H0 H1 locs1 → H1[q9]? = some ce → ce.vm = .none → s.vm.findClass E = some ce.cls → vx_W p l e R s m args below meth c H1 locs1 (cells + mc) (slots + ms) Q (F0 m pc ls rest) q9)
    (kk : ∀ (u : S) (t : State) (H1 : Heap) (locs1 : List Loc), t.heap = H1 → s.vm.Alike t.vm → post u → B u t → H.size ≤ H1.size → (∀ q : Nat, q < H.size → ¬ A1 q → H1[q]? = H[q]?) → va_S A0 H0 H1 locs1 → W p l e R s m args below meth c H1 locs1 (cells + mc) (slots + ms) Q (F0 m (pc + 3) ls (rest))) : W p l e R s m args below meth c H locs cells slots Q (F0 m pc ls st0) := by
  intro T hT X
  rcases hr T hT X with ⟨v, st₀, t, T', L, h0, X', hL, e1, e2, ⟨⟨u, hv, hp, hb⟩, hF⟩, st⟩ | ⟨q, st₀, t, T', L, E, ce, h0, X', hL, e1, e2, ⟨u, hp, hb, hF⟩, hce, hcv, hcl, st⟩
  · cases hv
    obtain ⟨k1, k2, k3⟩ := vx_keep h0 e1 hS hA hf hL hF
    obtain ⟨t2, a1, b1⟩ := kk u t T'.heap (locs ++ L) e1.symm (by rw [← e2]; exact X'.warmed.alike) hp hb k1 k2 k3 T' rfl X'
    exact ⟨t2, st t2 a1, b1⟩
  · obtain ⟨k1, k2, k3⟩ := vx_keep h0 e1 hS hAX hf hL hF
    obtain ⟨t2, a1, b1⟩ := kx E ce q u t T'.heap (locs ++ L) e1.symm (by rw [← e2]; exact X'.warmed.alike) hp hb k1 k2 k3 (by rw [e1]; exact hce) hcv hcl T' rfl X'
    exact ⟨t2, st.trans a1, b1⟩
/-- caught by the row x of this method's table; the rows ahead don't take it -/
theorem vx_catch {own name : String} {E : String} {ce : Cell} {q : Addr} (hown : s.vm.findClass own = some m.cls) (pre : List ExceptionTableEntry) (x : ExceptionTableEntry) (suf : List ExceptionTableEntry) (hsplit : c.exceptionTable.toList = pre ++ x :: suf)
    (hpass : ∀ z ∈ pre, covers z pc = false ∨ (z.catchType ≠ 0 ∧ ∃ nm : String, (Cond.classLink own z.catchType nm).before args s = true ∧ va_Nc E nm s)) (hx : covers x pc = true) (h0 : x.catchType ≠ 0)
    (hlink : (Cond.classLink own x.catchType name).before args s = true) (hcast : (Cond.castable E name).before args s = true) (hcell : H[q]? = some ce) (hv : ce.vm = .none) (hcl : s.vm.findClass E = some ce.cls)
    (kk : W p l e R s m args below meth c H locs cells slots Q (F0 m x.handlerPc ls [.ref q])) : vx_W p l e R s m args below meth c H locs cells slots Q (F0 m pc ls rest) q := by
  intro T hT X
  have hpl : e.platform.magicAccessors = ({} : Platform).magicAccessors := by rw [X.admits.platform]
  obtain ⟨c3, c4, hc3, hc4, hasg⟩ := Cond.castable_spec hcast
  cases Option.some.inj (hc3.symm.trans hcl)
  obtain ⟨c5, hc5, hcl5⟩ := Cond.classLink_spec hown hlink e.platform hpl
  cases Option.some.inj (hc4.symm.trans hc5)
  obtain ⟨vm', X', st⟩ := X.thenCaughtThrough q (g := F0 m pc ls rest) rfl (Steps.refl _) (by rw [hT]; exact hcell) (by rw [hv]; rfl) (by obtain ⟨k9, h9, -⟩ := Vm.findClass_spec hcl; exact ⟨k9, h9⟩) pre x suf hsplit
    (fun z hz => by
      rcases hpass z hz with h | ⟨hz0, nm, hl1, hn1⟩
      · exact Or.inl h
      · obtain ⟨c6, hc6, hcl6⟩ := Cond.classLink_spec hown hl1 e.platform hpl
        obtain ⟨a8, b8, h1, h2, h3⟩ := hn1
        cases Option.some.inj (h1.symm.trans hcl)
        cases Option.some.inj (h2.symm.trans hc6)
        exact Or.inr ⟨hz0, _, hcl6, h3⟩) hx (Or.inr ⟨h0, c4, hcl5, hasg⟩)
  obtain ⟨t, a1, b1⟩ := kk (T.setVm vm') hT X'
  exact ⟨t, st.trans a1, b1⟩
end Rows
section Ends
variable {p : Program} {l : Launch} {e : Env} {R : Room} {s : State} {m : MethodId} {args : Array Value} {below : List Frame} {meth : Method} {c : Code} {H : Heap} {locs : List Loc} {cells slots : Nat} {Q : State → Prop}
variable {mc ms : Nat} {free : Addr → Prop} {A0 A1 : Nat → Prop} {H0 : Heap} {a : Array Value} {ls : Array Slot} {st0 rest : List Value}
variable {Qc : Array Value → State → Outcome → State → Prop} {XC : String → State → State → Prop}
/-- what a body that may throw owes at its end -/
def vx_MQ (below : List Frame) (Qc : Array Value → State → Outcome → State → Prop) (XC : String → State → State → Prop) (a : Array Value) (s : State) (mc ms : Nat) (free : Addr → Prop) : State → Prop := fun t =>
  ∃ o, t.status = .running ∧ Ended t below o ∧ vx_Q Qc XC mc ms free a s o t
theorem vx_ret {g : JFrame} {mc ms : Nat} (k : W p l e R s m args below meth c H locs cells slots (MQ below Qc args s mc ms free) g) : W p l e R s m args below meth c H locs cells slots (vx_MQ below Qc XC args s mc ms free) g := by
  intro T hT X
  obtain ⟨t, a1, o, b1, b2, b3, b4⟩ := k T hT X
  exact ⟨t, a1, o, b1, b2, Or.inl ⟨b3, b4⟩⟩
/-- not caught here: it goes on to the caller -/
theorem vx_widen {g : JFrame} {q : Addr} {k n : Nat} (h1 : cells ≤ k) (h2 : slots ≤ n) (kk : vx_W p l e R s m args below meth c H locs k n Q g q) : vx_W p l e R s m args below meth c H locs cells slots Q g q := fun T hT X => kk T hT (stand_widen X h1 h2)
theorem vx_out {pc : Nat} {E : String} {ce : Cell} {q : Addr} {mc ms : Nat} (hout : ∀ x ∈ c.exceptionTable.toList, covers x pc = false) (hlocks : meth.locks = false) (hcell : H[q]? = some ce) (hv : ce.vm = .none) (hcl : s.vm.findClass E = some ce.cls)
    (hx : ∀ t : State, t.heap = H → s.vm.Alike t.vm → XC E s t) (hf : ∀ z ∈ locs, free z.base) (hc : cells ≤ mc) (hs : slots ≤ ms) :
    vx_W p l e R s m args below meth c H locs cells slots (vx_MQ below Qc XC args s mc ms free) (F0 m pc ls rest) q := by
  intro T hT X
  obtain ⟨st1, hrun, hend, hW, hsm⟩ := X.leaveThrown q (g := F0 m pc ls rest) rfl rfl rfl hout hlocks
  have hcell9 : (T.setFrames (.throwing q :: below)).heap[q]? = some ce := by
    show T.heap[q]? = some ce
    rw [hT]; exact hcell
  exact ⟨_, st1, .threw q, hrun, hend, Or.inr ⟨q, rfl, E, ce, locs, hx _ hT hW.alike, hcell9, hv, hcl, hW, hsm.mono hc hs, hf⟩⟩
theorem vx_frame {U : State} {k n : Nat} (h : s.sameButNew ({ U with vm := s.vm } : State) locs k n) : s.heap.size ≤ U.heap.size ∧ ∀ q : Nat, q < s.heap.size → (∀ z ∈ locs, z.base ≠ q) → U.heap[q]? = s.heap[q]? := by
  obtain ⟨-, h2, -, -, -, h6⟩ := h
  refine ⟨h2, fun q hq hz => ?_⟩
  obtain ⟨c9, e1, e2, e3, e4⟩ := h6 q _ (Array.getElem?_eq_getElem hq)
  have hs : c9.slots = (s.heap[q]).slots := Array.ext_getElem? fun i => e4 i fun hm => hz _ hm rfl
  have h9 : c9 = s.heap[q] := by
    rw [hs] at e2
    exact e2
  have e5 : U.heap[q]? = some c9 := e1
  rw [e5, h9, Array.getElem?_eq_getElem hq]
/-- the words of a throw but the four that speak of the heap -/
def vx_no (w : Cond) : Bool := decide (w ≠ .isRef (.static Bundle.tN "UNASSIGNED_STACK" Bundle.steD)) && decide (w ≠ .isRef (.static Bundle.tN "SUPPRESSED_SENTINEL" Bundle.listD)) && decide (w ≠ .laysStatic Bundle.tN "UNASSIGNED_STACK" Bundle.steD) && decide (w ≠ .laysStatic Bundle.tN "SUPPRESSED_SENTINEL" Bundle.listD)
def vx_at0 (own : String) (ic : Nat) (X : String) (names : List String) : List Cond := (Bundle.ownAtoms0 own ic X names).filter vx_no
def vx_atS (own : String) (ic : Nat) (X : String) (names : List String) : List Cond := (Bundle.ownAtoms own ic X names).filter vx_no
/-- a word that the tables alone decide, or a good one -/
def vx_ot (w : Cond) : Bool := w.onTables || goodWord w
theorem vx_ot_at {args a' : Array Value} {s U : State} {w : Cond} (hW : s.WarmedH U.vm) (hvm : s.vm = U.vm) (hg : vx_ot w = true) (h : w.before args s = true) : w.before a' U = true := by
  simp only [vx_ot, Bool.or_eq_true] at hg
  rcases hg with hg | hg
  · exact va_tabs hg hvm h
  · exact word_at hW (good_of_word hg) h
/-- a list's words: the good ones out of the method's own list, the others by premises of their own -/
theorem vx_hat {args : Array Value} {s : State} {L B : List Cond} (h1 : ∀ w ∈ L.filter goodWord, w.before args s = true) (h2 : ∀ w ∈ L.filter (fun w => !goodWord w), w ∈ B) (h3 : ∀ w ∈ B, w.before args s = true) : ∀ w ∈ L, w.before args s = true := by
  intro w hw
  by_cases g : goodWord w = true
  · exact h1 w (List.mem_filter.mpr ⟨hw, g⟩)
  · refine h3 w (h2 w (List.mem_filter.mpr ⟨hw, ?_⟩))
    show (!goodWord w) = true
    cases hgw : goodWord w
    · rfl
    · exact absurd hgw g
theorem vx_c {args : Array Value} {s : State} {w : Cond} {B : List Cond} (h : w.before args s = true) (t : ∀ w ∈ B, w.before args s = true) : ∀ w' ∈ w :: B, w'.before args s = true := fun w' h' => (List.mem_cons.mp h').elim (fun e => by rw [e]; exact h) (t w')
theorem vx_n {args : Array Value} {s : State} : ∀ w ∈ ([] : List Cond), w.before args s = true := fun _ h => nomatch h
theorem vx_own {args : Array Value} {s : State} {L : List Cond} (h1 : ∀ w ∈ L.filter vx_no, w.before args s = true)
    (hU : (Cond.isRef (.static Bundle.tN "UNASSIGNED_STACK" Bundle.steD)).before args s = true) (hN : (Cond.isRef (.static Bundle.tN "SUPPRESSED_SENTINEL" Bundle.listD)).before args s = true)
    (lU : (Cond.laysStatic Bundle.tN "UNASSIGNED_STACK" Bundle.steD).before args s = true) (lN : (Cond.laysStatic Bundle.tN "SUPPRESSED_SENTINEL" Bundle.listD).before args s = true) : ∀ w ∈ L, w.before args s = true := by
  intro w hw
  by_cases e1 : w = .isRef (.static Bundle.tN "UNASSIGNED_STACK" Bundle.steD)
  · rw [e1]; exact hU
  · by_cases e2 : w = .isRef (.static Bundle.tN "SUPPRESSED_SENTINEL" Bundle.listD)
    · rw [e2]; exact hN
    · by_cases e3 : w = .laysStatic Bundle.tN "UNASSIGNED_STACK" Bundle.steD
      · rw [e3]; exact lU
      · by_cases e4 : w = .laysStatic Bundle.tN "SUPPRESSED_SENTINEL" Bundle.listD
        · rw [e4]; exact lN
        · exact h1 w (List.mem_filter.mpr ⟨hw, by unfold vx_no; rw [decide_eq_true e1, decide_eq_true e2, decide_eq_true e3, decide_eq_true e4]; rfl⟩)
/-- where a static field lies, its class's statics cell in H -/
def vx_L (C n d : String) (A : Nat → Prop) (U : State) (H : Heap) : Prop := ∃ (c : ClassId) (k : Class) (i : Nat) (f : Field) (a : Nat) (cell : Cell), U.vm.findClass C = some c ∧ U.fieldFound? C n d = some (c, k, i, f) ∧ f.isStatic = true ∧ k.statics = some a ∧ H[a]? = some cell ∧ cell.vm.isStatics = true ∧ cell.cls = c ∧ f.slot < cell.slots.size ∧ k.staticTypes[f.slot]? = some f.type ∧ ¬ A a
theorem vx_L.moved {C n d : String} {A : Nat → Prop} {u U : State} {H : Heap} (hvm : u.vm.Alike U.vm) (h : vx_L C n d A u H) : vx_L C n d A U H := by
  obtain ⟨c, k, i, f, a, cell, h1, h2, h3, h4, h5, h6, h7, h8, h9, h10⟩ := h
  obtain ⟨k', hi', he⟩ := State.fieldFound?_setVm hvm h2
  exact ⟨c, k', i, f, a, cell, by rw [hvm.findClass]; exact h1, hi', h3, by rw [he]; exact h4, h5, h6, h7, h8, by rw [he]; exact h9, h10⟩
theorem vx_L.kept {C n d : String} {A : Nat → Prop} {U : State} {H H1 : Heap} (h : vx_L C n d A U H) (hq : ∀ a : Nat, a < H.size → ¬ A a → H1[a]? = H[a]?) : vx_L C n d A U H1 := by
  obtain ⟨c, k, i, f, a, cell, h1, h2, h3, h4, h5, h6, h7, h8, h9, h10⟩ := h
  exact ⟨c, k, i, f, a, cell, h1, h2, h3, h4, by rw [hq a (Array.getElem?_eq_some_iff.mp h5).1 h10]; exact h5, h6, h7, h8, h9, h10⟩
theorem vx_L.narrow {C n d : String} {A B : Nat → Prop} {U : State} {H : Heap} (h : vx_L C n d A U H) (hAB : ∀ q, B q → A q) : vx_L C n d B U H := by
  obtain ⟨c, k, i, f, a, cell, h1, h2, h3, h4, h5, h6, h7, h8, h9, h10⟩ := h
  exact ⟨c, k, i, f, a, cell, h1, h2, h3, h4, h5, h6, h7, h8, h9, fun z => h10 (hAB _ z)⟩
theorem vx_L.word {C n d : String} {A : Nat → Prop} {s : State} {args : Array Value} (h : vx_L C n d A s s.heap) : (Cond.laysStatic C n d).before args s = true := by
  obtain ⟨c, k, i, f, a, cell, h1, h2, h3, h4, h5, h6, h7, h8, h9, -⟩ := h
  show (Cond.laysStatic C n d).holds args s none s [] = true
  exact Cond.laysStatic_of h1 h2 h3 h4 h5 h6 h7 h8 h9
/-- .. and what it holds: null or some reference -/
def vx_Zq (C n d : String) (A : Nat → Prop) (U : State) (H : Heap) : Prop := va_Zq C n d A U H ∧ vx_L C n d A U H
theorem vx_Zq.moved {C n d : String} {A : Nat → Prop} {u U : State} {H : Heap} (hvm : u.vm.Alike U.vm) (h : vx_Zq C n d A u H) : vx_Zq C n d A U H := ⟨va_Zq.moved hvm h.1, vx_L.moved hvm h.2⟩
theorem vx_Zq.kept {C n d : String} {A : Nat → Prop} {U : State} {H H1 : Heap} (h : vx_Zq C n d A U H) (hq : ∀ a : Nat, a < H.size → ¬ A a → H1[a]? = H[a]?) : vx_Zq C n d A U H1 := ⟨va_Zq.kept h.1 hq, vx_L.kept h.2 hq⟩
theorem vx_Zq.narrow {C n d : String} {A B : Nat → Prop} {U : State} {H : Heap} (h : vx_Zq C n d A U H) (hAB : ∀ q, B q → A q) : vx_Zq C n d B U H := ⟨va_Zq.narrow h.1 hAB, vx_L.narrow h.2 hAB⟩
theorem vx_Zqof {args : Array Value} {s : State} {C n d : String} {A : Nat → Prop} (hl : (Cond.laysStatic C n d).before args s = true) (hini : (Cond.initialized C).before args s = true) (h : (Cond.isRef (.static C n d)).before args s = true) (hA : ∀ a : Nat, a < s.heap.size → ¬ A a) : vx_Zq C n d A s s.heap := by
  refine ⟨va_Zqof hl hini h hA, ?_⟩
  obtain ⟨c, k, i, f, a, cell, h1, h2, h3, h4, h5, h6, h7, h8, h9⟩ := Cond.laysStatic_spec hl
  exact ⟨c, k, i, f, a, cell, h1, h2, h3, h4, h5, h6, h7, h8, h9, hA a (Array.getElem?_eq_some_iff.mp h5).1⟩
theorem vx_isRef {C n d : String} {v : Value} {A : Nat → Prop} {s : State} {args : Array Value} (h : va_Z C n d v A s s.heap) (hv : v.isRef = true) : (Cond.isRef (.static C n d)).before args s = true := by
  obtain ⟨cf, kf, fi, f, a, cell, h1, h2, h3, h4, h5, h6, h7, -⟩ := h
  have he : (Term.static C n d).eval args s none [] s = some v := by
    simp [Term.eval, State.fieldNamed?, h1, h2, h4, h5, h6, h7]
  simp only [Cond.before, Cond.holds, Cond.value, he]
  cases v <;> simp_all [Value.isRef]
theorem vx_isRefq {C n d : String} {A : Nat → Prop} {s : State} {args : Array Value} (h : va_Zq C n d A s s.heap) : (Cond.isRef (.static C n d)).before args s = true := by
  rcases h with h | ⟨t, h⟩
  · exact vx_isRef h rfl
  · exact vx_isRef h rfl
/-- the same frame, seen from here: as if the method were called anew in this heap -/
theorem vx_rebase {T : State} (X : Stand p l e R s m args below meth c T locs cells slots) {R' : Room} (hf : R'.frames ≤ R.frames) (hl : R'.locals ≤ R.locals) (hc : cells + R'.cells ≤ R.cells) (hs : slots + R'.slots ≤ R.slots) :
    Stand p l e R' ((T.setVm s.vm).setFrames (.invoking m args :: below)) m args below meth c T [] 0 0 := by
  have htop : (T.setVm s.vm).topJava?.isSome := X.here.top
  have hF : ((T.setVm s.vm).setFrames (.invoking m args :: below)).frames = .invoking m args :: below := State.frames_setFrames _ (State.cur_lt_of_top htop)
  obtain ⟨g₀, hg0⟩ := Option.isSome_iff_exists.mp htop
  obtain ⟨r, hr⟩ := State.topJava?_eq_some.mp hg0
  have hl9 : e.platform.stackLimits (T.setVm s.vm).me = e.platform.stackLimits s.me := X.limits
  have hb9 : (T.setVm s.vm).me.stackBytes = s.me.stackBytes := X.bytes
  refine ⟨X.admits, X.cas, X.clock, hF, ?_, X.hears, X.method, X.code, X.here, X.tail, X.warmed, ?_, ?_, ?_⟩
  · have h := X.room
    have hU : ((T.setVm s.vm).setFrames (.invoking m args :: below)).localsInUse = s.localsInUse := by
      rw [State.localsInUse_invoking hF (meth := meth) (c := c) X.method X.code, State.localsInUse_invoking X.frames X.method X.code]
    simp only [State.hasRoom, Bool.and_eq_true, decide_eq_true_eq] at h ⊢
    obtain ⟨⟨⟨⟨h1, h2, h3, h4, h5, h6⟩, h7⟩, h8⟩, h9⟩ := h
    rw [X.frames, List.length_cons] at h2 h3
    have q1 := X.heapSize
    have q2 := X.used
    simp only [hF, hU, List.length_cons, State.stackLimits_setFrames, State.stackBytes_setFrames, hl9, hb9]
    refine ⟨⟨⟨⟨by omega, by omega, by omega, by omega, by omega, h6⟩, ?_⟩, ?_⟩, X.book⟩
    · show T.heap.size + R'.cells ≤ e.platform.maxCells
      omega
    · show T.slotsUsed + R'.slots ≤ e.platform.maxSlots
      omega
  · rw [State.stackLimits_setFrames]; rfl
  · rw [State.stackBytes_setFrames]; rfl
  · refine ⟨?_, Nat.le_refl _, Nat.le_refl _, ?_, ?_, fun a c9 h9 => ⟨c9, h9, rfl, rfl, fun _ _ => rfl⟩⟩
    · obtain ⟨t, ht, -⟩ := State.frames_cons hr
      show T.setVm s.vm = { ((T.setVm s.vm).setFrames (.invoking m args :: below)).setFrames (T.setVm s.vm).frames with heap := T.heap, slotsUsed := T.slotsUsed }
      rw [State.setFrames_setFrames, State.setFrames_self ht]
      rfl
    · show T.slotsUsed = T.slotsUsed + ((T.heap.toList.drop T.heap.size).map (·.slots.size)).sum
      rw [List.drop_eq_nil_of_le (Nat.le_of_eq Array.length_toList)]
      rfl
    · show ((T.heap.toList.drop T.heap.size).map (·.slots.size)).sum ≤ 0
      rw [List.drop_eq_nil_of_le (Nat.le_of_eq Array.length_toList)]
      exact Nat.le_refl _
/-- 'throw new E()': new; dup; invokespecial; athrow -/
theorem vx_throw0 {cc : ByteArray} {pc : Nat} (hexec : p.tables.exec = Jvm.exec) (hb : c.code = cc) (hl : l.stackTraces = false) {own cls : String} {names : List String} {ik ic mc ms : Nat} {A : Nat → Prop}
    (hown : s.vm.findClass own = some m.cls) (hcls : Bundle.fit cls = true) (hnames : ∀ n ∈ names, Bundle.fit n = true)
    (hk : (Cond.classLink own ik cls).before args s = true) (hini : (Cond.initialized cls).before args s = true) (hat : ∀ w ∈ vx_at0 own ic cls names, w.before args s = true)
    (hgood : ∀ w ∈ Cond.classLink own ik cls :: Cond.initialized cls :: vx_at0 own ic cls names, vx_ot w = true)
    (hU : vx_Zq Bundle.tN "UNASSIGNED_STACK" Bundle.steD A s s.heap) (hN : vx_Zq Bundle.tN "SUPPRESSED_SENTINEL" Bundle.listD A s s.heap) (hS : va_S A s.heap H locs) (hsize : ls.size = c.maxLocals)
    (d0 : decode cc pc = .ok (.new ik, 3)) (d3 : decode cc (pc + 3) = .ok (.dup, 1)) (d4 : decode cc (pc + 4) = .ok (.invokespecial ic, 3)) (d7 : decode cc (pc + 7) = .ok (.athrow, 1))
    (hout : ∀ x ∈ c.exceptionTable.toList, covers x (pc + 7) = false)
    (hRframes : names.length + 3 < R.frames) (hRlocals : (rest.map fun v => v.category).sum + (13 * (names.length + 1) + 42) ≤ R.locals) (hRcells : cells + 1 ≤ R.cells) (hRslots : slots + 6 ≤ R.slots) (hlocks : meth.locks = false)
    (hx : ∀ t : State, s.vm.Alike t.vm → H.size ≤ t.heap.size → (∀ q : Nat, q < H.size → t.heap[q]? = H[q]?) → XC cls s t)
    (hf : ∀ z ∈ locs, free z.base) (hc : cells + 1 ≤ mc) (hs : slots + 6 ≤ ms) :
    W p l e R s m args below meth c H locs cells slots (vx_MQ below Qc XC args s mc ms free) (F0 m pc ls rest) := by
  intro T hT X
  have htr : e.platform.stackTraces = false := (show e.platform.stackTraces = l.stackTraces by rw [X.admits.platform]).trans hl
  have Y := vx_rebase X (R' := { frames := R.frames, locals := R.locals, cells := 1, slots := 6 }) (Nat.le_refl _) (Nat.le_refl _) hRcells hRslots
  obtain ⟨s', hA⟩ : ∃ z, z = (T.setVm s.vm).setFrames (.invoking m args :: below) := ⟨_, rfl⟩
  rw [← hA] at Y
  have hvm : s'.vm = s.vm := by rw [hA]; rfl
  have hhp : s'.heap = H := by rw [hA]; exact hT
  have hW0 : s.WarmedH s'.vm := by rw [hvm]; exact State.WarmedH.refl s
  have hat' : ∀ w ∈ vx_at0 own ic cls names, w.before args s' = true := fun w hw => vx_ot_at hW0 hvm.symm (hgood w (List.mem_cons_of_mem _ (List.mem_cons_of_mem _ hw))) (hat w hw)
  have hk' : (Cond.classLink own ik cls).before args s' = true := vx_ot_at hW0 hvm.symm (hgood _ List.mem_cons_self) hk
  have hini' : (Cond.initialized cls).before args s' = true := vx_ot_at hW0 hvm.symm (hgood _ (List.mem_cons_of_mem _ List.mem_cons_self)) hini
  have hU' : vx_Zq Bundle.tN "UNASSIGNED_STACK" Bundle.steD A s' s'.heap := by rw [hhp]; exact vx_Zq.moved hW0.alike (hU.kept hS.2.1)
  have hN' : vx_Zq Bundle.tN "SUPPRESSED_SENTINEL" Bundle.listD A s' s'.heap := by rw [hhp]; exact vx_Zq.moved hW0.alike (hN.kept hS.2.1)
  have h : ∀ w ∈ Bundle.ownAtoms0 own ic cls names, w.before args s' = true := vx_own hat' (vx_isRefq hU'.1) (vx_isRefq hN'.1) hU'.2.word hN'.2.word
  have hown' : s'.vm.findClass own = some m.cls := by rw [hvm]; exact hown
  have hins : (Cond.instantiable cls 6).before args s' = true := h _ (by simp [Bundle.ownAtoms0])
  obtain ⟨vm₁, cX, kX, hfX, hkX, -, -, X₁, st1⟩ := Y.newCold hexec (own := own) (C := cls) (index := ik) (n := 6) hown' hk' hins hini'
    (g := F0 m pc ls rest) rfl (by rw [hb]; exact d0) (Nat.le_refl _) (Nat.le_refl _)
  generalize hT1 : (T.setVm vm₁).pushCell { cls := cX, slots := kX.instanceTypes.map defaultValue, vm := .none } = T1 at X₁ st1
  have hcat : (Value.ref T.heap.size).category = 1 := rfl
  have hcellA : T1.heap[T.heap.size]? = some (freshCell cX kX) := by rw [← hT1]; exact State.heap_pushCell_size _ _
  have d3' : decode c.code (pc + 3) = .ok (.dup, 1) := by rw [hb]; exact d3
  obtain ⟨U, hsteps, hrun, hend, hW, hsame, ce, hce, hO⟩ := X₁.ctorThrow0 hexec htr (own := own) (cls := cls) (names := names) (ic := ic) hown' hcls hnames h (fun x hx => nomatch hx) hfX hkX hcellA (by rw [hhp, hT]; exact Nat.le_refl _)
    (g := { method := m, pc := pc + 4, locals := ls, stack := .ref T.heap.size :: .ref T.heap.size :: rest, locked := none }) rfl hsize rfl rfl (rest := rest) rfl
    (by rw [hb]; exact d4) (by rw [hb]; exact d7) hout hRframes (by simp only [List.map_cons, List.sum_cons, hcat]; omega) hlocks
  obtain ⟨f1, f2⟩ := vx_frame hsame
  rw [hhp] at f1 f2
  have hWs : s.WarmedH U.vm := State.WarmedH.trans hW0 hW
  have hcl : s.vm.findClass cls = some ce.cls := by
    have h9 := hO.cls
    rw [hvm] at h9
    exact h9
  have hall : s.sameButNew ({ U with vm := s.vm } : State) locs mc ms := by
    subst hA
    obtain ⟨e1, e2⟩ := hsame
    rw [State.setFrames_setFrames] at e1
    have h2 : (T.setVm s.vm).sameButNew ({ U with vm := s.vm } : State) [] (0 + 1) (0 + 6) := ⟨e1, e2⟩
    have h3 := X.same.trans h2
    rw [List.append_nil] at h3
    exact h3.mono hc hs
  refine ⟨U, ?_, .threw T.heap.size, hrun, hend, Or.inr ⟨T.heap.size, rfl, cls, ce, locs, hx U hWs.alike f1 (fun q hq => f2 q hq (fun z hz => nomatch hz)), hce, hO.vm, hcl, hWs, hall, hf⟩⟩
  refine st1 _ ?_
  show Steps p.tables e below (T1.setTop { method := m, pc := pc + 3, locals := ls, stack := .ref T.heap.size :: rest, locked := none }) _
  jvm_step X₁.here [X₁.here.top, hexec, d3', Value.category]
  exact hsteps
/-- 'throw new E("text")': new; dup; ldc; invokespecial; athrow -/
theorem vx_throwS {cc : ByteArray} {pc : Nat} (hexec : p.tables.exec = Jvm.exec) (hb : c.code = cc) (hl : l.stackTraces = false) {own cls text : String} {names : List String} {ik is ic mc ms sa : Nat} {A : Nat → Prop}
    (hown : s.vm.findClass own = some m.cls) (hcls : Bundle.fit cls = true) (hnames : ∀ n ∈ names, Bundle.fit n = true)
    (hk : (Cond.classLink own ik cls).before args s = true) (hini : (Cond.initialized cls).before args s = true) (hstr : vk_R own is text sa s) (hat : ∀ w ∈ vx_atS own ic cls names, w.before args s = true)
    (hgood : ∀ w ∈ Cond.classLink own ik cls :: Cond.initialized cls :: vx_atS own ic cls names, vx_ot w = true)
    (hU : vx_Zq Bundle.tN "UNASSIGNED_STACK" Bundle.steD A s s.heap) (hN : vx_Zq Bundle.tN "SUPPRESSED_SENTINEL" Bundle.listD A s s.heap) (hS : va_S A s.heap H locs) (hsize : ls.size = c.maxLocals)
    (d0 : decode cc pc = .ok (.new ik, 3)) (d3 : decode cc (pc + 3) = .ok (.dup, 1)) (d4 : decode cc (pc + 4) = .ok (.ldc is, 2)) (d6 : decode cc (pc + 6) = .ok (.invokespecial ic, 3)) (d9 : decode cc (pc + 9) = .ok (.athrow, 1))
    (hout : ∀ x ∈ c.exceptionTable.toList, covers x (pc + 9) = false)
    (hRframes : names.length + 3 < R.frames) (hRlocals : (rest.map fun v => v.category).sum + (13 * (names.length + 1) + 43) ≤ R.locals) (hRcells : cells + 1 ≤ R.cells) (hRslots : slots + 6 ≤ R.slots) (hlocks : meth.locks = false)
    (hx : ∀ t : State, s.vm.Alike t.vm → H.size ≤ t.heap.size → (∀ q : Nat, q < H.size → t.heap[q]? = H[q]?) → XC cls s t)
    (hf : ∀ z ∈ locs, free z.base) (hc : cells + 1 ≤ mc) (hs : slots + 6 ≤ ms) :
    W p l e R s m args below meth c H locs cells slots (vx_MQ below Qc XC args s mc ms free) (F0 m pc ls rest) := by
  intro T hT X
  have htr : e.platform.stackTraces = false := (show e.platform.stackTraces = l.stackTraces by rw [X.admits.platform]).trans hl
  have Y := vx_rebase X (R' := { frames := R.frames, locals := R.locals, cells := 1, slots := 6 }) (Nat.le_refl _) (Nat.le_refl _) hRcells hRslots
  obtain ⟨s', hA⟩ : ∃ z, z = (T.setVm s.vm).setFrames (.invoking m args :: below) := ⟨_, rfl⟩
  rw [← hA] at Y
  have hvm : s'.vm = s.vm := by rw [hA]; rfl
  have hhp : s'.heap = H := by rw [hA]; exact hT
  have hW0 : s.WarmedH s'.vm := by rw [hvm]; exact State.WarmedH.refl s
  have hat' : ∀ w ∈ vx_atS own ic cls names, w.before args s' = true := fun w hw => vx_ot_at hW0 hvm.symm (hgood w (List.mem_cons_of_mem _ (List.mem_cons_of_mem _ hw))) (hat w hw)
  have hk' : (Cond.classLink own ik cls).before args s' = true := vx_ot_at hW0 hvm.symm (hgood _ List.mem_cons_self) hk
  have hini' : (Cond.initialized cls).before args s' = true := vx_ot_at hW0 hvm.symm (hgood _ (List.mem_cons_of_mem _ List.mem_cons_self)) hini
  have hU' : vx_Zq Bundle.tN "UNASSIGNED_STACK" Bundle.steD A s' s'.heap := by rw [hhp]; exact vx_Zq.moved hW0.alike (hU.kept hS.2.1)
  have hN' : vx_Zq Bundle.tN "SUPPRESSED_SENTINEL" Bundle.listD A s' s'.heap := by rw [hhp]; exact vx_Zq.moved hW0.alike (hN.kept hS.2.1)
  have h : ∀ w ∈ Bundle.ownAtoms own ic cls names, w.before args s' = true := vx_own hat' (vx_isRefq hU'.1) (vx_isRefq hN'.1) hU'.2.word hN'.2.word
  have hown' : s'.vm.findClass own = some m.cls := by rw [hvm]; exact hown
  have hins : (Cond.instantiable cls 6).before args s' = true := h _ (by simp [Bundle.ownAtoms])
  obtain ⟨vm₁, cX, kX, hfX, hkX, -, -, X₁, st1⟩ := Y.newCold hexec (own := own) (C := cls) (index := ik) (n := 6) hown' hk' hins hini'
    (g := F0 m pc ls rest) rfl (by rw [hb]; exact d0) (Nat.le_refl _) (Nat.le_refl _)
  generalize hT1 : (T.setVm vm₁).pushCell { cls := cX, slots := kX.instanceTypes.map defaultValue, vm := .none } = T1 at X₁ st1
  have hcat : (Value.ref T.heap.size).category = 1 := rfl
  have hcellA : T1.heap[T.heap.size]? = some (freshCell cX kX) := by rw [← hT1]; exact State.heap_pushCell_size _ _
  have d3' : decode c.code (pc + 3) = .ok (.dup, 1) := by rw [hb]; exact d3
  have d4' : decode c.code (pc + 4) = .ok (.ldc is, 2) := by rw [hb]; exact d4
  have hstr' : vk_R own is text sa s' := vk_R.warm hW0 hstr
  obtain ⟨U, hsteps, hrun, hend, hW, hsame, ce, hce, hO⟩ := X₁.ctorThrowS hexec htr (own := own) (cls := cls) (names := names) (ic := ic) hown' hcls hnames h (fun x hx => nomatch hx) hfX hkX hcellA (by rw [hhp, hT]; exact Nat.le_refl _) (msg := .ref sa) rfl
    (g := { method := m, pc := pc + 6, locals := ls, stack := .ref sa :: .ref T.heap.size :: .ref T.heap.size :: rest, locked := none }) rfl hsize rfl rfl (rest := rest) rfl
    (by rw [hb]; exact d6) (by rw [hb]; exact d9) hout hRframes (by simp only [List.map_cons, List.sum_cons, hcat]; omega) hlocks
  obtain ⟨f1, f2⟩ := vx_frame hsame
  rw [hhp] at f1 f2
  have hWs : s.WarmedH U.vm := State.WarmedH.trans hW0 hW
  have hcl : s.vm.findClass cls = some ce.cls := by
    have h9 := hO.cls
    rw [hvm] at h9
    exact h9
  have hall : s.sameButNew ({ U with vm := s.vm } : State) locs mc ms := by
    subst hA
    obtain ⟨e1, e2⟩ := hsame
    rw [State.setFrames_setFrames] at e1
    have h2 : (T.setVm s.vm).sameButNew ({ U with vm := s.vm } : State) [] (0 + 1) (0 + 6) := ⟨e1, e2⟩
    have h3 := X.same.trans h2
    rw [List.append_nil] at h3
    exact h3.mono hc hs
  refine ⟨U, ?_, .threw T.heap.size, hrun, hend, Or.inr ⟨T.heap.size, rfl, cls, ce, locs, hx U hWs.alike f1 (fun q hq => f2 q hq (fun z hz => nomatch hz)), hce, hO.vm, hcl, hWs, hall, hf⟩⟩
  refine st1 _ ?_
  show Steps p.tables e below (T1.setTop { method := m, pc := pc + 3, locals := ls, stack := .ref T.heap.size :: rest, locked := none }) _
  jvm_step X₁.here [X₁.here.top, hexec, d3', Value.category]
  exact X₁.ldcString hexec (own := own) (text := text) (index := is) (a := sa) hown' hstr'.1 hstr'.2
    (g := { method := m, pc := pc + 4, locals := ls, stack := .ref T.heap.size :: .ref T.heap.size :: rest, locked := none }) rfl d4' _ hsteps
/-- 'throw new E("text")', the text by a wide index -/
theorem vx_throwSW {cc : ByteArray} {pc : Nat} (hexec : p.tables.exec = Jvm.exec) (hb : c.code = cc) (hl : l.stackTraces = false) {own cls text : String} {names : List String} {ik is ic mc ms sa : Nat} {A : Nat → Prop}
    (hown : s.vm.findClass own = some m.cls) (hcls : Bundle.fit cls = true) (hnames : ∀ n ∈ names, Bundle.fit n = true)
    (hk : (Cond.classLink own ik cls).before args s = true) (hini : (Cond.initialized cls).before args s = true) (hstr : vk_R own is text sa s) (hat : ∀ w ∈ vx_atS own ic cls names, w.before args s = true)
    (hgood : ∀ w ∈ Cond.classLink own ik cls :: Cond.initialized cls :: vx_atS own ic cls names, vx_ot w = true)
    (hU : vx_Zq Bundle.tN "UNASSIGNED_STACK" Bundle.steD A s s.heap) (hN : vx_Zq Bundle.tN "SUPPRESSED_SENTINEL" Bundle.listD A s s.heap) (hS : va_S A s.heap H locs) (hsize : ls.size = c.maxLocals)
    (d0 : decode cc pc = .ok (.new ik, 3)) (d3 : decode cc (pc + 3) = .ok (.dup, 1)) (d4 : decode cc (pc + 4) = .ok (.ldc_w is, 3)) (d7 : decode cc (pc + 7) = .ok (.invokespecial ic, 3)) (d10 : decode cc (pc + 10) = .ok (.athrow, 1))
    (hout : ∀ x ∈ c.exceptionTable.toList, covers x (pc + 10) = false)
    (hRframes : names.length + 3 < R.frames) (hRlocals : (rest.map fun v => v.category).sum + (13 * (names.length + 1) + 43) ≤ R.locals) (hRcells : cells + 1 ≤ R.cells) (hRslots : slots + 6 ≤ R.slots) (hlocks : meth.locks = false)
    (hx : ∀ t : State, s.vm.Alike t.vm → H.size ≤ t.heap.size → (∀ q : Nat, q < H.size → t.heap[q]? = H[q]?) → XC cls s t)
    (hf : ∀ z ∈ locs, free z.base) (hc : cells + 1 ≤ mc) (hs : slots + 6 ≤ ms) :
    W p l e R s m args below meth c H locs cells slots (vx_MQ below Qc XC args s mc ms free) (F0 m pc ls rest) := by
  intro T hT X
  have htr : e.platform.stackTraces = false := (show e.platform.stackTraces = l.stackTraces by rw [X.admits.platform]).trans hl
  have Y := vx_rebase X (R' := { frames := R.frames, locals := R.locals, cells := 1, slots := 6 }) (Nat.le_refl _) (Nat.le_refl _) hRcells hRslots
  obtain ⟨s', hA⟩ : ∃ z, z = (T.setVm s.vm).setFrames (.invoking m args :: below) := ⟨_, rfl⟩
  rw [← hA] at Y
  have hvm : s'.vm = s.vm := by rw [hA]; rfl
  have hhp : s'.heap = H := by rw [hA]; exact hT
  have hW0 : s.WarmedH s'.vm := by rw [hvm]; exact State.WarmedH.refl s
  have hat' : ∀ w ∈ vx_atS own ic cls names, w.before args s' = true := fun w hw => vx_ot_at hW0 hvm.symm (hgood w (List.mem_cons_of_mem _ (List.mem_cons_of_mem _ hw))) (hat w hw)
  have hk' : (Cond.classLink own ik cls).before args s' = true := vx_ot_at hW0 hvm.symm (hgood _ List.mem_cons_self) hk
  have hini' : (Cond.initialized cls).before args s' = true := vx_ot_at hW0 hvm.symm (hgood _ (List.mem_cons_of_mem _ List.mem_cons_self)) hini
  have hU' : vx_Zq Bundle.tN "UNASSIGNED_STACK" Bundle.steD A s' s'.heap := by rw [hhp]; exact vx_Zq.moved hW0.alike (hU.kept hS.2.1)
  have hN' : vx_Zq Bundle.tN "SUPPRESSED_SENTINEL" Bundle.listD A s' s'.heap := by rw [hhp]; exact vx_Zq.moved hW0.alike (hN.kept hS.2.1)
  have h : ∀ w ∈ Bundle.ownAtoms own ic cls names, w.before args s' = true := vx_own hat' (vx_isRefq hU'.1) (vx_isRefq hN'.1) hU'.2.word hN'.2.word
  have hown' : s'.vm.findClass own = some m.cls := by rw [hvm]; exact hown
  have hins : (Cond.instantiable cls 6).before args s' = true := h _ (by simp [Bundle.ownAtoms])
  obtain ⟨vm₁, cX, kX, hfX, hkX, -, -, X₁, st1⟩ := Y.newCold hexec (own := own) (C := cls) (index := ik) (n := 6) hown' hk' hins hini'
    (g := F0 m pc ls rest) rfl (by rw [hb]; exact d0) (Nat.le_refl _) (Nat.le_refl _)
  generalize hT1 : (T.setVm vm₁).pushCell { cls := cX, slots := kX.instanceTypes.map defaultValue, vm := .none } = T1 at X₁ st1
  have hcat : (Value.ref T.heap.size).category = 1 := rfl
  have hcellA : T1.heap[T.heap.size]? = some (freshCell cX kX) := by rw [← hT1]; exact State.heap_pushCell_size _ _
  have d3' : decode c.code (pc + 3) = .ok (.dup, 1) := by rw [hb]; exact d3
  have d4' : decode c.code (pc + 4) = .ok (.ldc_w is, 3) := by rw [hb]; exact d4
  have hstr' : vk_R own is text sa s' := vk_R.warm hW0 hstr
  obtain ⟨U, hsteps, hrun, hend, hW, hsame, ce, hce, hO⟩ := X₁.ctorThrowS hexec htr (own := own) (cls := cls) (names := names) (ic := ic) hown' hcls hnames h (fun x hx => nomatch hx) hfX hkX hcellA (by rw [hhp, hT]; exact Nat.le_refl _) (msg := .ref sa) rfl
    (g := { method := m, pc := pc + 7, locals := ls, stack := .ref sa :: .ref T.heap.size :: .ref T.heap.size :: rest, locked := none }) rfl hsize rfl rfl (rest := rest) rfl
    (by rw [hb]; exact d7) (by rw [hb]; exact d10) hout hRframes (by simp only [List.map_cons, List.sum_cons, hcat]; omega) hlocks
  obtain ⟨f1, f2⟩ := vx_frame hsame
  rw [hhp] at f1 f2
  have hWs : s.WarmedH U.vm := State.WarmedH.trans hW0 hW
  have hcl : s.vm.findClass cls = some ce.cls := by
    have h9 := hO.cls
    rw [hvm] at h9
    exact h9
  have hall : s.sameButNew ({ U with vm := s.vm } : State) locs mc ms := by
    subst hA
    obtain ⟨e1, e2⟩ := hsame
    rw [State.setFrames_setFrames] at e1
    have h2 : (T.setVm s.vm).sameButNew ({ U with vm := s.vm } : State) [] (0 + 1) (0 + 6) := ⟨e1, e2⟩
    have h3 := X.same.trans h2
    rw [List.append_nil] at h3
    exact h3.mono hc hs
  refine ⟨U, ?_, .threw T.heap.size, hrun, hend, Or.inr ⟨T.heap.size, rfl, cls, ce, locs, hx U hWs.alike f1 (fun q hq => f2 q hq (fun z hz => nomatch hz)), hce, hO.vm, hcl, hWs, hall, hf⟩⟩
  refine st1 _ ?_
  show Steps p.tables e below (T1.setTop { method := m, pc := pc + 3, locals := ls, stack := .ref T.heap.size :: rest, locked := none }) _
  jvm_step X₁.here [X₁.here.top, hexec, d3', Value.category]
  exact X₁.ldcStringW hexec (own := own) (text := text) (index := is) (a := sa) hown' hstr'.1 hstr'.2
    (g := { method := m, pc := pc + 4, locals := ls, stack := .ref T.heap.size :: .ref T.heap.size :: rest, locked := none }) rfl d4' _ hsteps
end Ends
section Bodies
variable {l : Launch}
theorem vx_ofW {y : MethodName} {ws ws' : List Cond} {rm : Room} {Pc : Array Value → State → Prop} {Qc : Array Value → State → Outcome → State → Prop} {XC : String → State → State → Prop} {mc ms : Nat} {free : Addr → Prop} {cc : ByteArray} {maxL : Nat} {ret : Option FieldType}
    (hy : plainName y.cls = true) (hw : ws = Cond.code y cc maxL ret :: ws')
    (body : ∀ p e s m args below meth c s₁, BodyLoose p l y (headSpec ws rm) cc maxL ret e s m args below meth c s₁ → c.maxLocals = maxL → (∀ x ∈ c.exceptionTable.toList, False) → Pc args s →
      W p l e (headSpec ws rm).room s m args below meth c s.heap [] 0 0 (vx_MQ below Qc XC args s mc ms free) (entryFrame m args maxL)) : vx_Met l y ws rm Pc Qc XC mc ms free := by
  refine MetFree.of_bodyS (code := cc) (maxLocals := maxL) (ret := ret) hy ?_ ?_
  · intro args s m h hn
    obtain ⟨meth, c, h1, h2, h3, h4, h5, h6, -, -⟩ := Cond.code_spec hn (atoms_spec (ws := ws) h _ (by rw [hw]; exact List.mem_cons_self))
    exact ⟨meth, c, h1, h2, h3, h4, h5, h6⟩
  · intro p e s m args below meth c s₁ B hml hP _
    have hh0 : s₁.heap = s.heap := by rw [B.state]; rfl
    have ht : ∀ x ∈ c.exceptionTable.toList, False := by
      obtain ⟨meth9, c9, h1, h2, -, -, -, -, h7, -⟩ := Cond.code_spec B.named (atoms_spec (ws := ws) B.pre _ (by rw [hw]; exact List.mem_cons_self))
      cases Option.some.inj (h1.symm.trans B.method)
      cases Option.some.inj (h2.symm.trans (Stand.of_body B).code)
      intro x hx
      rw [Array.isEmpty_iff.mp h7] at hx
      cases hx
    obtain ⟨t, a1, o, b1, b2, b3⟩ := body p e s m args below meth c s₁ B hml ht hP s₁ hh0 (Stand.of_body B)
    exact ⟨t, o, a1, b1, b2, b3⟩
/-- the table of a body with handlers -/
theorem vx_table {p : Program} {x y : MethodName} {S : Spec} {cc bytes : ByteArray} {maxL maxL' : Nat} {ret ret' : Option FieldType} {e : Env} {s s₁ : State} {m : MethodId} {args : Array Value} {below : List Frame} {meth : Method} {c : Code} {hh : List (Nat × Nat × Nat × Nat)}
    (B : BodyLoose p l y S cc maxL ret e s m args below meth c s₁) (h : (Cond.codeWith y bytes maxL' ret' hh).before args s = true) : c.exceptionTable.toList = tableOf hh := by
  obtain ⟨m9, meth9, c9, hn9, h1, h2, -, -, h6, -⟩ := Cond.codeWith_spec h
  cases Option.some.inj (hn9.symm.trans B.named)
  cases Option.some.inj (h1.symm.trans B.method)
  cases Option.some.inj (h2.symm.trans (Stand.of_body B).code)
  rw [← h6, table_eq]
end Bodies
end VXA
/-! ===== END ===== -/
/-! ===== BEGIN a static call of a method with an exception table ===== -/
section VXS
variable {p : Program} {l : Launch} {e : Env} {R : Room} {s : State} {m : MethodId} {args : Array Value} {below : List Frame} {meth : Method} {c : Code} {T : State} {H : Heap} {locs : List Loc} {cells slots : Nat}
abbrev vx_CSW (R : Room) (s : State) (args : Array Value) (own : String) (index : Nat) (y : MethodName) (bytes : ByteArray) (maxL : Nat) (ret : Option FieldType) (hh : List (Nat × Nat × Nat × Nat)) (ws : List Cond) (rm : Room) (mc ms n : Nat) : Prop :=
  (rm.cells = mc ∧ rm.slots = ms ∧ rm.frames + 1 ≤ R.frames ∧ 8 + (maxL + 11) + rm.locals ≤ R.locals ∧ (∀ w ∈ ws, ∀ (a' : Array Value) (U : State), s.WarmedH U.vm → w.before a' U = true) ∧ Cond.codeWith y bytes maxL ret hh ∈ ws) ∧
  (Cond.codeWith y bytes maxL ret hh).before args s = true ∧ (Cond.initialized y.cls).before args s = true ∧ (y.cls ≠ "java/lang/invoke/MethodHandle" ∧ y.cls ≠ "java/lang/invoke/VarHandle") ∧
  (∀ sig, parseMethodDescriptor y.desc = some sig → n = sig.parameters.length) ∧ (Cond.methodLink own index y).before args s = true ∧ (Cond.static y).before args s = true
theorem vx_cwSW {own : String} {index maxL mc ms : Nat} {y : MethodName} {bytes : ByteArray} {ret : Option FieldType} {hh : List (Nat × Nat × Nat × Nat)} {Ts ws ws' : List Cond} {rm : Room} (n : Nat) (ht : ∀ w ∈ Ts, w.before args s = true) (hT : GoodIn Ts (va_wsS own index y ws)) (hw : ws = Cond.codeWith y bytes maxL ret hh :: ws') (hrc : rm.cells = mc) (hrs : rm.slots = ms)
    (hd : y.cls ≠ "java/lang/invoke/MethodHandle" ∧ y.cls ≠ "java/lang/invoke/VarHandle" ∧ (parseMethodDescriptor y.desc).map (fun d => d.parameters.length) = some n) (hR : rm.frames + 1 ≤ R.frames ∧ 8 + (maxL + 11) + rm.locals ≤ R.locals) :
    vx_CSW R s args own index y bytes maxL ret hh ws rm mc ms n := by
  have ok : ∀ w ∈ va_wsS own index y ws, w.before args s = true := fun w h => ht w (hT w h).1
  have hG : GoodIn Ts ws := fun w h => hT w (by unfold va_wsS; exact List.mem_append_right _ h)
  have hc : Cond.codeWith y bytes maxL ret hh ∈ ws := by rw [hw]; exact List.mem_cons_self
  refine ⟨⟨hrc, hrs, hR.1, hR.2, pay_in ht hG, hc⟩, ht _ (hG _ hc).1, ok _ (by simp [va_wsS]), ⟨hd.1, hd.2.1⟩, fun sig h => ?_, ok _ (by simp [va_wsS]), ok _ (by simp [va_wsS])⟩
  have h2 := hd.2.2
  rw [h] at h2
  exact (Option.some.inj h2).symm
theorem vx_callSW (X : Stand p l e R s m args below meth c T locs cells slots) (hexec : p.tables.exec = Jvm.exec) {own : String} {index : Nat} {y : MethodName} {bytes : ByteArray} {maxL : Nat} {ret : Option FieldType} {hh : List (Nat × Nat × Nat × Nat)}
    (hown : s.vm.findClass own = some m.cls) (hlink : (Cond.methodLink own index y).before args s = true) (hstat : (Cond.static y).before args s = true) (hinit : (Cond.initialized y.cls).before args s = true)
    (hcode : (Cond.codeWith y bytes maxL ret hh).before args s = true) (hy : y.cls ≠ "java/lang/invoke/MethodHandle" ∧ y.cls ≠ "java/lang/invoke/VarHandle")
    {W9 : Nat} {Pre : Pt → Array Value → Prop} {Post : Pt → Array Value → Option Value → Pt → Prop} (hK : Back l R p e below s args y 3 W9 Pre Post)
    {g : JFrame} (hg : g.method = m) (hsize : g.locals.size = c.maxLocals) {argsL rest : List Value} (hlen : ∀ sig, parseMethodDescriptor y.desc = some sig → argsL.length = sig.parameters.length)
    (hstack : g.stack = argsL.reverse ++ rest) (hW : 2 * g.monitorRoom + (rest.map fun v => v.category).sum ≤ W9) (hdg : decode c.code g.pc = .ok (.invokestatic index, 3))
    (hpre : ∀ vm₁, s.WarmedH vm₁ → Pre ⟨T.setVm vm₁, locs, cells, slots⟩ argsL.toArray) :
    ∃ (v : Option Value) (vm₁ : Vm) (B : Pt), s.WarmedH vm₁ ∧ Stand p l e R s m args below meth c B.U B.locs B.cells B.slots ∧ Post ⟨T.setVm vm₁, locs, cells, slots⟩ argsL.toArray v B ∧
      ∀ target, Steps p.tables e below (B.U.setTop { g with pc := g.pc + 3, stack := v.toList ++ rest }) target → Steps p.tables e below (T.setTop g) target := by
  obtain ⟨mk, methM, cM, hnamed, hmethM, -, -, -, -, -, -, hsigM⟩ := Cond.codeWith_spec hcode
  have hstatic : methM.isStatic = true := Cond.static_spec hnamed hmethM hstat
  obtain ⟨kP, hkP, -⟩ := className_of_methodNamed hnamed
  have hinitP : kP.init = .initialized := Cond.initialized_spec (findClass_of_methodNamed hnamed) hkP hinit
  obtain ⟨vm₁, X₁, hstep₁⟩ := X.invokestatic hexec hown hlink hnamed hmethM hstatic hkP hinitP hy (g := g) hg (argsL := argsL) (rest := rest) (hlen _ hsigM) hstack hdg
  obtain ⟨v, B, X', hpost, hsteps⟩ := hK m meth c ⟨T.setVm vm₁, locs, cells, slots⟩ { g with stack := rest } (.invokestatic index) mk argsL.toArray X₁ hg hsize hdg hW (X₁.named hnamed) (hpre vm₁ X₁.warmed)
  exact ⟨v, vm₁, B, X₁.warmed, X', hpost, fun target h => hstep₁ _ fun acts => by rw [doInvoke_state]; exact hsteps.trans h⟩
theorem vx_runSW {y : MethodName} {bytes cc : ByteArray} {maxL nL mc ms n index : Nat} {ret : Option FieldType} {hh : List (Nat × Nat × Nat × Nat)} {ws : List Cond} {rm : Room} {Pc : Array Value → State → Prop} {Qc : Array Value → State → Outcome → State → Prop} {free : Addr → Prop} {Ts : List Cond} {own : String} {As rest : List Value} {g : JFrame}
    (S : CallFix p m c cc nL s args Ts own) (hM : Met l y ws rm Pc Qc mc ms free) (cw : vx_CSW R s args own index y bytes maxL ret hh ws rm mc ms n) (hp : PreS s H Pc As)
    (hg : g.method = m) (hn : As.length = n) (hsize : g.locals.size = nL) (hstack : g.stack = As.reverse ++ rest) (hW : 2 * g.monitorRoom + (rest.map fun v => v.category).sum ≤ 8) (hdg : decode cc g.pc = .ok (.invokestatic index, 3)) (hf : cells + mc ≤ R.cells ∧ slots + ms ≤ R.slots) :
    va_Run p l e R s m args below meth c H locs cells slots mc ms g rest (Qc As.toArray) (free) := by
  obtain ⟨⟨hrc, hrs, hfr, hlo, hws, hcw⟩, hcode, hini, hy, hlen, hl, hstt⟩ := cw
  have hK : Back l R p e below s args y 3 8 (PreOf R mc ms Pc) (PostOf Qc mc ms free) := va_backW (hh := hh) (bytes := bytes) (maxL := maxL) (ret := ret) hM hp.1 hrc hrs hfr hlo hws hcw (fun a' U hW => word_at hW (Or.inl (by first | rfl | simp [Cond.onTables, Cond.keeps, Cond.steady])) hini)
  obtain ⟨hx, hb, hml, ho, -⟩ := S
  intro T hT X
  obtain ⟨v, vm₁, ⟨U', l2, c2, s2⟩, hW₁, X', ⟨g', mk, t, L, e1, e2, hq, h1, hL, h2, h3⟩, st⟩ := vx_callSW X hx (hh := hh) (bytes := bytes) (maxL := maxL) (ret := ret) ho hl hstt hini hcode hy hK hg (hsize.trans hml.symm) (argsL := As) (rest := rest) (fun sig h => hn.trans (hlen sig h)) hstack hW (by rw [hb]; exact hdg)
    (fun vm₁ hW₁ => ⟨hf.1, hf.2, hp.2 (T.setVm vm₁) hT hW₁⟩)
  dsimp only [Pt.U, Pt.locs, Pt.cells, Pt.slots] at X' e1 e2 h1 h2 h3 st
  subst h1; subst h2; subst h3
  exact ⟨v, (T.setVm vm₁).calling g' mk As.toArray, t, U', L, hT, X', hL, e1, e2, hq, st⟩
/-- not caught here, past rows that name other classes: it goes on to the caller -/
theorem vx_outP {p : Program} {l : Launch} {e : Env} {R : Room} {s : State} {m : MethodId} {args : Array Value} {below : List Frame} {meth : Method} {c : Code} {H : Heap} {locs : List Loc} {cells slots : Nat} {free : Addr → Prop} {ls : Array Slot} {rest : List Value} {Qc : Array Value → State → Outcome → State → Prop} {XC : String → State → State → Prop}
    {pc : Nat} {own E : String} {ce : Cell} {q : Addr} {mc ms : Nat} (hown : s.vm.findClass own = some m.cls) (hlocks : meth.locks = false)
    (hpass : ∀ z ∈ c.exceptionTable.toList, covers z pc = false ∨ (z.catchType ≠ 0 ∧ ∃ nm : String, (Cond.classLink own z.catchType nm).before args s = true ∧ va_Nc E nm s)) (hcell : H[q]? = some ce) (hv : ce.vm = .none) (hcl : s.vm.findClass E = some ce.cls)
    (hx : ∀ t : State, t.heap = H → s.vm.Alike t.vm → XC E s t) (hf : ∀ z ∈ locs, free z.base) (hc : cells ≤ mc) (hs : slots ≤ ms) :
    vx_W p l e R s m args below meth c H locs cells slots (vx_MQ below Qc XC args s mc ms free) (F0 m pc ls rest) q := by
  intro T hT X
  have hpl : e.platform.magicAccessors = ({} : Platform).magicAccessors := by rw [X.admits.platform]
  obtain ⟨vm', hW', X', st⟩ := X.outThrough hlocks q (g := F0 m pc ls rest) rfl rfl rfl (cell := ce) (by rw [hT]; exact hcell) (by rw [hv]; rfl)
    (by obtain ⟨k9, h9, -⟩ := Vm.findClass_spec hcl; exact ⟨k9, h9⟩) (fun z hz => by
      rcases hpass z hz with h | ⟨hz0, nm, hl1, hn1⟩
      · exact Or.inl h
      · obtain ⟨c6, hc6, hcl6⟩ := Cond.classLink_spec hown hl1 e.platform hpl
        obtain ⟨a8, b8, h1, h2, h3⟩ := hn1
        cases Option.some.inj (h1.symm.trans hcl)
        cases Option.some.inj (h2.symm.trans hc6)
        exact Or.inr ⟨hz0, _, hcl6, h3⟩)
  obtain ⟨g₀, hfr⟩ := X'.frames_eq
  have hcell9 : ((T.setVm vm').setFrames (.throwing q :: below)).heap[q]? = some ce := by
    show T.heap[q]? = some ce
    rw [hT]; exact hcell
  have hend : Ended ((T.setVm vm').setFrames (.throwing q :: below)) below (.threw q) := State.frames_setFrames _ (State.cur_lt_of_frames hfr)
  refine ⟨(T.setVm vm').setFrames (.throwing q :: below), ?_, .threw q, X'.here.running, hend, Or.inr ⟨q, rfl, E, ce, locs, hx _ hT (X'.ends _).1.alike, hcell9, hv, hcl, (X'.ends _).1, (X'.ends _).2.mono hc hs, hf⟩⟩
  rw [X.pushThrowing_eq]
  exact st
/-- a thing of a world lies in the heap -/
theorem vx_lt {D : va_G} {cl : List vw_C} {ws : va_W} {H1 : Heap} (h : va_P D cl ws H1) {k : Nat} {q : Nat × va_E} (hk : ws[k]? = some q) : q.1 < H1.size := (h k q hk).lt
end VXS
/-! ===== END ===== -/
/-! ===== BEGIN methods with a table of their own: called by a name, returning or throwing ===== -/
section VXH
/-! vx_backW, vx_callVX, vx_callSX, vx_callVW, vx_runVW, vx_runVX, vx_runSX, vx_ofWH follow the same proofs as their sisters above (Free/Laws.lean, Shelf42/LK1.lean); vx_outP calls Shelf42/NT130.lean (outThrough). -/
section
variable {l : Launch} {R : Room} {p : Program} {e : Env} {below : List Frame} {s : State} {sargs : Array Value} {y : MethodName} {len W9 : Nat}
theorem vx_backW {ws : List Cond} {rm : Room} {Pc : Array Value → State → Prop} {Qc : Array Value → State → Outcome → State → Prop} {XC : String → State → State → Prop} {mc ms : Nat} {free : Addr → Prop} {bytes : ByteArray} {maxL : Nat} {ret : Option FieldType} {hh : List (Nat × Nat × Nat × Nat)}
    (hM : vx_Met l y ws rm Pc Qc XC mc ms free) (hblind : FrameBlind Pc) (hrc : rm.cells = mc) (hrs : rm.slots = ms)
    (hframes : rm.frames + 1 ≤ R.frames) (hlocals : W9 + (maxL + 11) + rm.locals ≤ R.locals)
    (hws : ∀ w ∈ ws, ∀ a' U, s.WarmedH U.vm → w.before a' U = true) (hcode : Cond.codeWith y bytes maxL ret hh ∈ ws) (hinit : ∀ a' U, s.WarmedH U.vm → (Cond.initialized y.cls).before a' U = true) :
    vx_Back l R p e below s sargs y len W9 (PreOf R mc ms Pc) (PostOf Qc mc ms free) (vx_Post XC mc ms free) := by
  intro m meth c A g ig mk a X hg hsize hdg hW hn hp
  have h1 : (headSpec ws rm).pre.before a A.U = true := atoms_intro fun w hw => hws w hw _ _ X.warmed
  have h2 : (Cond.codeWith y bytes maxL ret hh).before a A.U = true := hws _ hcode _ _ X.warmed
  have h3 : (Cond.initialized y.cls).before a A.U = true := hinit _ _ X.warmed
  have h4 : A.cells + (headSpec ws rm).room.cells ≤ R.cells := by rw [show (headSpec ws rm).room.cells = mc from hrc]; exact hp.1
  have h5 : A.slots + (headSpec ws rm).room.slots ≤ R.slots := by rw [show (headSpec ws rm).room.slots = ms from hrs]; exact hp.2.1
  have hPc : Pc a (A.U.calling g mk a) := hblind _ _ _ _ hp.2.2
  obtain ⟨U, Ls, c0, s0⟩ := A
  dsimp only [Pt.U, Pt.locs, Pt.cells, Pt.slots] at h1 h2 h3 h4 h5 X hn hPc ⊢
  obtain ⟨m9, methY, cY, hn9, hmY, hcY, -, hlY, -⟩ := Cond.codeWith_spec h2
  cases Option.some.inj (hn9.symm.trans hn)
  obtain ⟨kY, hkY, -⟩ := className_of_methodNamed hn
  have hinitY : kY.init = .initialized := Cond.initialized_spec (findClass_of_methodNamed hn) hkY h3
  have h : At U g.method c below := by rw [hg]; exact X.here
  have hlocals9 : W9 + (maxL + 11) + (headSpec ws rm).room.locals ≤ R.locals := hlocals
  have happ : (headSpec ws rm).appliesLoose y e.platform (U.calling g mk a) = true :=
    Spec.appliesLoose_calling (g := g) h hdg hn hkY hinitY
      (X.room_calling (g := g) (R' := (headSpec ws rm).room) hsize hmY hcY hframes (by rw [hlY]; omega) h4 h5) h1
  obtain ⟨mid, hmid⟩ := h.above
  have hfr : (U.setTop g).frames = (.java g :: mid) ++ below := by rw [State.frames_setTop' g h.top, hmid]; rfl
  obtain ⟨o, s₂, hsteps, -, hend, hq⟩ := Steps.callFree hM p X.admits X.cas X.clock (acts := []) hfr happ hPc trivial
  have hq' : vx_Q Qc XC mc ms free a (U.calling g mk a) o s₂ := hq
  rw [State.frames_setTop' g h.top] at hend
  obtain ⟨g₀, hg0⟩ := Option.isSome_iff_exists.mp h.top
  obtain ⟨r, hr⟩ := State.topJava?_eq_some.mp hg0
  have hr' : (({ U with heap := s₂.heap, slotsUsed := s₂.slotsUsed } : State).setVm s₂.vm).frames = .java g₀ :: r := hr
  rcases hq' with ⟨hqc, L, hfe, hL⟩ | ⟨q, rfl, E, ce, L, hx, hce, hcv, hcl, hW₂, hsm, hL⟩
  · obtain ⟨⟨v, rfl⟩, hW₂, e2, q2, q3, q4, q5, q6⟩ := id hfe
    have e3 : s₂ = ({ (U.calling g mk a).setFrames s₂.frames with heap := s₂.heap, slotsUsed := s₂.slotsUsed } : State).setVm s₂.vm := by
      have : s₂ = ({ s₂ with vm := (U.calling g mk a).vm } : State).setVm s₂.vm := rfl
      rw [e2] at this
      exact this
    obtain ⟨c₂, i₂, len₂, hc₂, hd₂, hf₂⟩ := hend
    have hW' : U.WarmedH s₂.vm := hW₂
    have hcc : c₂ = c := by
      have h1 : s₂.code? g.method = U.code? g.method := by
        rw [State.code?_eq, State.code?_eq, hW'.alike.method?]
      exact Option.some.inj (hc₂.symm.trans (h1.trans h.code))
    subst hcc
    have hlen : len₂ = len := by rw [hdg] at hd₂; cases hd₂; rfl
    subst hlen
    have hs₂ : s₂ = (({ U with heap := s₂.heap, slotsUsed := s₂.slotsUsed } : State).setVm s₂.vm).setTop { g with pc := g.pc + len₂, stack := v.toList ++ g.stack } := by
      refine e3.trans ?_
      rw [hf₂, State.calling_eq h.top, State.setFrames_setFrames, State.setTop_of_frames _ hr', hr]
      rfl
    have hsame : U.sameButNew ({ U with heap := s₂.heap, slotsUsed := s₂.slotsUsed } : State) L mc ms := by
      refine ⟨?_, q2, q3, q4, q5, q6⟩
      obtain ⟨t, ht, -⟩ := State.frames_cons hr
      show ({ U with heap := s₂.heap, slotsUsed := s₂.slotsUsed } : State) = { U.setFrames U.frames with heap := s₂.heap, slotsUsed := s₂.slotsUsed }
      rw [State.setFrames_self ht]
    subst hg
    refine Or.inl ⟨v, ⟨(({ U with heap := s₂.heap, slotsUsed := s₂.slotsUsed } : State).setVm s₂.vm), Ls ++ L, c0 + mc, s0 + ms⟩,
      ⟨X.admits, X.cas, X.clock, X.frames, X.room, X.hears, X.method, X.code, (X.here.setHeapUsed s₂.heap s₂.slotsUsed).setVm hW'.alike, X.tail, State.WarmedH.trans X.warmed hW', X.limits, X.bytes, X.same.trans (hsame.setVm s.vm)⟩,
      ⟨g, mk, s₂, L, rfl, rfl, hqc, rfl, hL, rfl, rfl⟩, ?_⟩
    show Steps p.tables e below _ ((({ U with heap := s₂.heap, slotsUsed := s₂.slotsUsed } : State).setVm s₂.vm).setTop { g with pc := g.pc + len₂, stack := v.toList ++ g.stack })
    rw [← hs₂]
    exact hsteps
  · obtain ⟨e2, q2, q3, q4, q5, q6⟩ := id hsm
    have e3 : s₂ = ({ (U.calling g mk a).setFrames s₂.frames with heap := s₂.heap, slotsUsed := s₂.slotsUsed } : State).setVm s₂.vm := by
      have : s₂ = ({ s₂ with vm := (U.calling g mk a).vm } : State).setVm s₂.vm := rfl
      rw [e2] at this
      exact this
    have hf₂ : s₂.frames = .throwing q :: .java g :: U.frames.tail := hend
    have hW' : U.WarmedH s₂.vm := hW₂
    have hs₂ : s₂ = ((({ U with heap := s₂.heap, slotsUsed := s₂.slotsUsed } : State).setVm s₂.vm).setTop g).pushFrame (.throwing q) := by
      refine e3.trans ?_
      rw [hf₂, State.calling_eq h.top, State.setFrames_setFrames, State.pushFrame, State.frames_setTop _ hr', State.setTop_of_frames _ hr', State.setFrames_setFrames, hr]
      rfl
    have hsame : U.sameButNew ({ U with heap := s₂.heap, slotsUsed := s₂.slotsUsed } : State) L mc ms := by
      refine ⟨?_, q2, q3, q4, q5, q6⟩
      obtain ⟨t, ht, -⟩ := State.frames_cons hr
      show ({ U with heap := s₂.heap, slotsUsed := s₂.slotsUsed } : State) = { U.setFrames U.frames with heap := s₂.heap, slotsUsed := s₂.slotsUsed }
      rw [State.setFrames_self ht]
    subst hg
    refine Or.inr ⟨q, ⟨(({ U with heap := s₂.heap, slotsUsed := s₂.slotsUsed } : State).setVm s₂.vm), Ls ++ L, c0 + mc, s0 + ms⟩,
      ⟨X.admits, X.cas, X.clock, X.frames, X.room, X.hears, X.method, X.code, (X.here.setHeapUsed s₂.heap s₂.slotsUsed).setVm hW'.alike, X.tail, State.WarmedH.trans X.warmed hW', X.limits, X.bytes, X.same.trans (hsame.setVm s.vm)⟩,
      ⟨g, mk, s₂, L, E, ce, rfl, rfl, hx, hce, hcv, hcl, rfl, hL, rfl, rfl⟩, ?_⟩
    show Steps p.tables e below _ (((({ U with heap := s₂.heap, slotsUsed := s₂.slotsUsed } : State).setVm s₂.vm).setTop g).pushFrame (.throwing q))
    rw [← hs₂]
    exact hsteps
end
variable {p : Program} {l : Launch} {e : Env} {R : Room} {s : State} {m : MethodId} {args : Array Value} {below : List Frame} {meth : Method} {c : Code} {T : State} {H : Heap} {locs : List Loc} {cells slots : Nat}
theorem vx_callVX (X : Stand p l e R s m args below meth c T locs cells slots) (hexec : p.tables.exec = Jvm.exec) {own C : String} {index : Nat} {y : MethodName} {bytes : ByteArray} {maxL : Nat} {ret : Option FieldType} {hh : List (Nat × Nat × Nat × Nat)}
    (hown : s.vm.findClass own = some m.cls) (hlink : (Cond.methodLink own index y).before args s = true) (hinst : (Cond.instanceMethod y).before args s = true) (hsel : (Cond.selects C y y).before args s = true)
    (hcode : (Cond.codeWith y bytes maxL ret hh).before args s = true) (hy : y.cls ≠ "java/lang/invoke/MethodHandle" ∧ y.cls ≠ "java/lang/invoke/VarHandle")
    {W9 : Nat} {Pre : Pt → Array Value → Prop} {Post : Pt → Array Value → Option Value → Pt → Prop} {PostX : Pt → Array Value → Addr → Pt → Prop} (hK : vx_Back l R p e below s args y 3 W9 Pre Post PostX)
    {b : Addr} {cellB : Cell} (hcell : T.heap[b]? = some cellB) (hobj : cellB.vm.isStatics = false) (hcls : s.vm.findClass C = some cellB.cls)
    {g : JFrame} (hg : g.method = m) (hsize : g.locals.size = c.maxLocals) {argsL rest : List Value} (hlen : ∀ sig, parseMethodDescriptor y.desc = some sig → argsL.length = sig.parameters.length)
    (hstack : g.stack = argsL.reverse ++ .ref b :: rest) (hW : 2 * g.monitorRoom + (rest.map fun v => v.category).sum ≤ W9) (hdg : decode c.code g.pc = .ok (.invokevirtual index, 3))
    (hpre : ∀ vm₁, s.WarmedH vm₁ → Pre ⟨T.setVm vm₁, locs, cells, slots⟩ (Value.ref b :: argsL).toArray) :
    (∃ (v : Option Value) (vm₁ : Vm) (B : Pt), s.WarmedH vm₁ ∧ Stand p l e R s m args below meth c B.U B.locs B.cells B.slots ∧ Post ⟨T.setVm vm₁, locs, cells, slots⟩ (Value.ref b :: argsL).toArray v B ∧
      ∀ target, Steps p.tables e below (B.U.setTop { g with pc := g.pc + 3, stack := v.toList ++ rest }) target → Steps p.tables e below (T.setTop g) target) ∨
    (∃ (q : Addr) (vm₁ : Vm) (B : Pt), s.WarmedH vm₁ ∧ Stand p l e R s m args below meth c B.U B.locs B.cells B.slots ∧ PostX ⟨T.setVm vm₁, locs, cells, slots⟩ (Value.ref b :: argsL).toArray q B ∧
      Steps p.tables e below (T.setTop g) ((B.U.setTop { g with stack := rest }).pushFrame (.throwing q))) := by
  obtain ⟨mk, methM, hnamed, hmethM, hstM, habM⟩ := Cond.instanceMethod_spec hinst
  obtain ⟨m8, methM', cM, hn8, hmethM', -, -, -, -, -, -, hsigM⟩ := Cond.codeWith_spec hcode
  cases Option.some.inj (hn8.symm.trans hnamed)
  cases hmethM.symm.trans hmethM'
  obtain ⟨c2, r2, m2, q1, q2, q3, q4, kP, hkP, hkPi⟩ := Cond.selects_spec hsel
  cases hcls.symm.trans q1
  cases (State.methodFound?_of_named hnamed hy).symm.trans q2
  cases hnamed.symm.trans q3
  have hselP : selectMethod e.platform s.vm cellB.cls mk = .method mk := by rw [Launch.admits_selectMethod X.admits]; exact q4
  obtain ⟨vm₁, X₁, hstep₁⟩ := X.invokevirtual hexec hown hlink hnamed hmethM hstM hkP hkPi hy (a := b) (cell := cellB) hcell
    (fun z h => by rw [h] at hobj; cases hobj) hselP hmethM habM hkP hkPi (g := g) hg (argsL := argsL) (rest := rest) (hlen _ hsigM) hstack hdg
  rcases hK m meth c ⟨T.setVm vm₁, locs, cells, slots⟩ { g with stack := rest } (.invokevirtual index) mk (Value.ref b :: argsL).toArray X₁ hg hsize hdg hW (X₁.named hnamed) (hpre vm₁ X₁.warmed) with ⟨v, B, X', hpost, hsteps⟩ | ⟨q, B, X', hpost, hsteps⟩
  · exact Or.inl ⟨v, vm₁, B, X₁.warmed, X', hpost, fun target h => hstep₁ _ fun acts => by rw [doInvoke_state]; exact hsteps.trans h⟩
  · exact Or.inr ⟨q, vm₁, B, X₁.warmed, X', hpost, hstep₁ _ fun acts => by rw [doInvoke_state]; exact hsteps⟩
theorem vx_callSX (X : Stand p l e R s m args below meth c T locs cells slots) (hexec : p.tables.exec = Jvm.exec) {own : String} {index : Nat} {y : MethodName} {bytes : ByteArray} {maxL : Nat} {ret : Option FieldType} {hh : List (Nat × Nat × Nat × Nat)}
    (hown : s.vm.findClass own = some m.cls) (hlink : (Cond.methodLink own index y).before args s = true) (hstat : (Cond.static y).before args s = true) (hinit : (Cond.initialized y.cls).before args s = true)
    (hcode : (Cond.codeWith y bytes maxL ret hh).before args s = true) (hy : y.cls ≠ "java/lang/invoke/MethodHandle" ∧ y.cls ≠ "java/lang/invoke/VarHandle")
    {W9 : Nat} {Pre : Pt → Array Value → Prop} {Post : Pt → Array Value → Option Value → Pt → Prop} {PostX : Pt → Array Value → Addr → Pt → Prop} (hK : vx_Back l R p e below s args y 3 W9 Pre Post PostX)
    {g : JFrame} (hg : g.method = m) (hsize : g.locals.size = c.maxLocals) {argsL rest : List Value} (hlen : ∀ sig, parseMethodDescriptor y.desc = some sig → argsL.length = sig.parameters.length)
    (hstack : g.stack = argsL.reverse ++ rest) (hW : 2 * g.monitorRoom + (rest.map fun v => v.category).sum ≤ W9) (hdg : decode c.code g.pc = .ok (.invokestatic index, 3))
    (hpre : ∀ vm₁, s.WarmedH vm₁ → Pre ⟨T.setVm vm₁, locs, cells, slots⟩ argsL.toArray) :
    (∃ (v : Option Value) (vm₁ : Vm) (B : Pt), s.WarmedH vm₁ ∧ Stand p l e R s m args below meth c B.U B.locs B.cells B.slots ∧ Post ⟨T.setVm vm₁, locs, cells, slots⟩ argsL.toArray v B ∧
      ∀ target, Steps p.tables e below (B.U.setTop { g with pc := g.pc + 3, stack := v.toList ++ rest }) target → Steps p.tables e below (T.setTop g) target) ∨
    (∃ (q : Addr) (vm₁ : Vm) (B : Pt), s.WarmedH vm₁ ∧ Stand p l e R s m args below meth c B.U B.locs B.cells B.slots ∧ PostX ⟨T.setVm vm₁, locs, cells, slots⟩ argsL.toArray q B ∧
      Steps p.tables e below (T.setTop g) ((B.U.setTop { g with stack := rest }).pushFrame (.throwing q))) := by
  obtain ⟨mk, methM, cM, hnamed, hmethM, -, -, -, -, -, -, hsigM⟩ := Cond.codeWith_spec hcode
  have hstatic : methM.isStatic = true := Cond.static_spec hnamed hmethM hstat
  obtain ⟨kP, hkP, -⟩ := className_of_methodNamed hnamed
  have hinitP : kP.init = .initialized := Cond.initialized_spec (findClass_of_methodNamed hnamed) hkP hinit
  obtain ⟨vm₁, X₁, hstep₁⟩ := X.invokestatic hexec hown hlink hnamed hmethM hstatic hkP hinitP hy (g := g) hg (argsL := argsL) (rest := rest) (hlen _ hsigM) hstack hdg
  rcases hK m meth c ⟨T.setVm vm₁, locs, cells, slots⟩ { g with stack := rest } (.invokestatic index) mk argsL.toArray X₁ hg hsize hdg hW (X₁.named hnamed) (hpre vm₁ X₁.warmed) with ⟨v, B, X', hpost, hsteps⟩ | ⟨q, B, X', hpost, hsteps⟩
  · exact Or.inl ⟨v, vm₁, B, X₁.warmed, X', hpost, fun target h => hstep₁ _ fun acts => by rw [doInvoke_state]; exact hsteps.trans h⟩
  · exact Or.inr ⟨q, vm₁, B, X₁.warmed, X', hpost, hstep₁ _ fun acts => by rw [doInvoke_state]; exact hsteps⟩
theorem vx_callVW (X : Stand p l e R s m args below meth c T locs cells slots) (hexec : p.tables.exec = Jvm.exec) {own C : String} {index : Nat} {y : MethodName} {bytes : ByteArray} {maxL : Nat} {ret : Option FieldType} {hh : List (Nat × Nat × Nat × Nat)}
    (hown : s.vm.findClass own = some m.cls) (hlink : (Cond.methodLink own index y).before args s = true) (hinst : (Cond.instanceMethod y).before args s = true) (hsel : (Cond.selects C y y).before args s = true)
    (hcode : (Cond.codeWith y bytes maxL ret hh).before args s = true) (hy : y.cls ≠ "java/lang/invoke/MethodHandle" ∧ y.cls ≠ "java/lang/invoke/VarHandle")
    {W9 : Nat} {Pre : Pt → Array Value → Prop} {Post : Pt → Array Value → Option Value → Pt → Prop} (hK : Back l R p e below s args y 3 W9 Pre Post)
    {b : Addr} {cellB : Cell} (hcell : T.heap[b]? = some cellB) (hobj : cellB.vm.isStatics = false) (hcls : s.vm.findClass C = some cellB.cls)
    {g : JFrame} (hg : g.method = m) (hsize : g.locals.size = c.maxLocals) {argsL rest : List Value} (hlen : ∀ sig, parseMethodDescriptor y.desc = some sig → argsL.length = sig.parameters.length)
    (hstack : g.stack = argsL.reverse ++ .ref b :: rest) (hW : 2 * g.monitorRoom + (rest.map fun v => v.category).sum ≤ W9) (hdg : decode c.code g.pc = .ok (.invokevirtual index, 3))
    (hpre : ∀ vm₁, s.WarmedH vm₁ → Pre ⟨T.setVm vm₁, locs, cells, slots⟩ (Value.ref b :: argsL).toArray) :
    ∃ (v : Option Value) (vm₁ : Vm) (B : Pt), s.WarmedH vm₁ ∧ Stand p l e R s m args below meth c B.U B.locs B.cells B.slots ∧ Post ⟨T.setVm vm₁, locs, cells, slots⟩ (Value.ref b :: argsL).toArray v B ∧
      ∀ target, Steps p.tables e below (B.U.setTop { g with pc := g.pc + 3, stack := v.toList ++ rest }) target → Steps p.tables e below (T.setTop g) target := by
  obtain ⟨mk, methM, hnamed, hmethM, hstM, habM⟩ := Cond.instanceMethod_spec hinst
  obtain ⟨m8, methM', cM, hn8, hmethM', -, -, -, -, -, -, hsigM⟩ := Cond.codeWith_spec hcode
  cases Option.some.inj (hn8.symm.trans hnamed)
  cases hmethM.symm.trans hmethM'
  obtain ⟨c2, r2, m2, q1, q2, q3, q4, kP, hkP, hkPi⟩ := Cond.selects_spec hsel
  cases hcls.symm.trans q1
  cases (State.methodFound?_of_named hnamed hy).symm.trans q2
  cases hnamed.symm.trans q3
  have hselP : selectMethod e.platform s.vm cellB.cls mk = .method mk := by rw [Launch.admits_selectMethod X.admits]; exact q4
  obtain ⟨vm₁, X₁, hstep₁⟩ := X.invokevirtual hexec hown hlink hnamed hmethM hstM hkP hkPi hy (a := b) (cell := cellB) hcell
    (fun z h => by rw [h] at hobj; cases hobj) hselP hmethM habM hkP hkPi (g := g) hg (argsL := argsL) (rest := rest) (hlen _ hsigM) hstack hdg
  obtain ⟨v, B, X', hpost, hsteps⟩ := hK m meth c ⟨T.setVm vm₁, locs, cells, slots⟩ { g with stack := rest } (.invokevirtual index) mk (Value.ref b :: argsL).toArray X₁ hg hsize hdg hW (X₁.named hnamed) (hpre vm₁ X₁.warmed)
  exact ⟨v, vm₁, B, X₁.warmed, X', hpost, fun target h => hstep₁ _ fun acts => by rw [doInvoke_state]; exact hsteps.trans h⟩
abbrev vx_CVW (R : Room) (s : State) (args : Array Value) (own C : String) (index : Nat) (y : MethodName) (bytes : ByteArray) (maxL : Nat) (ret : Option FieldType) (hh : List (Nat × Nat × Nat × Nat)) (ws : List Cond) (rm : Room) (mc ms n : Nat) : Prop :=
  (rm.cells = mc ∧ rm.slots = ms ∧ rm.frames + 1 ≤ R.frames ∧ 8 + (maxL + 11) + rm.locals ≤ R.locals ∧ (∀ w ∈ ws, ∀ (a' : Array Value) (U : State), s.WarmedH U.vm → w.before a' U = true) ∧ Cond.codeWith y bytes maxL ret hh ∈ ws) ∧
  (Cond.codeWith y bytes maxL ret hh).before args s = true ∧ (Cond.initialized y.cls).before args s = true ∧ (y.cls ≠ "java/lang/invoke/MethodHandle" ∧ y.cls ≠ "java/lang/invoke/VarHandle") ∧
  (∀ sig, parseMethodDescriptor y.desc = some sig → n = sig.parameters.length) ∧ (Cond.methodLink own index y).before args s = true ∧ (Cond.instanceMethod y).before args s = true ∧ (Cond.selects C y y).before args s = true
theorem vx_cwVW {own C : String} {index maxL mc ms : Nat} {y : MethodName} {bytes : ByteArray} {ret : Option FieldType} {hh : List (Nat × Nat × Nat × Nat)} {Ts ws ws' : List Cond} {rm : Room} (n : Nat) (ht : ∀ w ∈ Ts, w.before args s = true) (hT : GoodIn Ts (wsV own index C y ws)) (hw : ws = Cond.codeWith y bytes maxL ret hh :: ws') (hrc : rm.cells = mc) (hrs : rm.slots = ms)
    (hd : y.cls = C ∧ y.cls ≠ "java/lang/invoke/MethodHandle" ∧ y.cls ≠ "java/lang/invoke/VarHandle" ∧ (parseMethodDescriptor y.desc).map (fun d => d.parameters.length) = some n) (hR : rm.frames + 1 ≤ R.frames ∧ 8 + (maxL + 11) + rm.locals ≤ R.locals) :
    vx_CVW R s args own C index y bytes maxL ret hh ws rm mc ms n := by
  obtain ⟨hC, hd⟩ := hd
  subst hC
  have ok : ∀ w ∈ wsV own index y.cls y ws, w.before args s = true := fun w h => ht w (hT w h).1
  have hG : GoodIn Ts ws := fun w h => hT w (by unfold wsV; exact List.mem_append_right _ h)
  have hc : Cond.codeWith y bytes maxL ret hh ∈ ws := by rw [hw]; exact List.mem_cons_self
  refine ⟨⟨hrc, hrs, hR.1, hR.2, pay_in ht hG, hc⟩, ht _ (hG _ hc).1, ok _ (by simp [wsV]), ⟨hd.1, hd.2.1⟩, fun sig h => ?_, ok _ (by simp [wsV]), ok _ (by simp [wsV]), ok _ (by simp [wsV])⟩
  have h2 := hd.2.2
  rw [h] at h2
  exact (Option.some.inj h2).symm
theorem vx_runVW {y : MethodName} {bytes cc : ByteArray} {maxL nL mc ms n index : Nat} {ret : Option FieldType} {hh : List (Nat × Nat × Nat × Nat)} {ws : List Cond} {rm : Room} {Pc : Array Value → State → Prop} {Qc : Array Value → State → Outcome → State → Prop} {free : Addr → Prop} {Ts : List Cond} {own C : String} {b : Addr} {As rest : List Value} {g : JFrame}
    (S : CallFix p m c cc nL s args Ts own) (hM : Met l y ws rm Pc Qc mc ms free) (cw : vx_CVW R s args own C index y bytes maxL ret hh ws rm mc ms n) (hp : PreV s H C b Pc As)
    (hg : g.method = m) (hn : As.length = n) (hsize : g.locals.size = nL) (hstack : g.stack = As.reverse ++ .ref b :: rest) (hW : 2 * g.monitorRoom + (rest.map fun v => v.category).sum ≤ 8) (hdg : decode cc g.pc = .ok (.invokevirtual index, 3)) (hf : cells + mc ≤ R.cells ∧ slots + ms ≤ R.slots) :
    va_Run p l e R s m args below meth c H locs cells slots mc ms g rest (Qc (Value.ref b :: As).toArray) free := by
  obtain ⟨⟨hrc, hrs, hfr, hlo, hws, hcw⟩, hcode, hini, hy, hlen, hl, hin, hse⟩ := cw
  have hK : Back l R p e below s args y 3 8 (PreOf R mc ms Pc) (PostOf Qc mc ms free) := va_backW (hh := hh) (bytes := bytes) (maxL := maxL) (ret := ret) hM hp.1 hrc hrs hfr hlo hws hcw (fun a' U hW => word_at hW (Or.inl (by first | rfl | simp [Cond.onTables, Cond.keeps, Cond.steady])) hini)
  obtain ⟨hx, hb, hml, ho, -⟩ := S
  obtain ⟨-, ⟨cellB, hcB, hoB, hclB⟩, hPc⟩ := hp
  intro T hT X
  obtain ⟨v, vm₁, ⟨U', l2, c2, s2⟩, hW₁, X', ⟨g', mk, t, L, e1, e2, hq, h1, hL, h2, h3⟩, st⟩ := vx_callVW X hx (C := C) (hh := hh) (bytes := bytes) (maxL := maxL) (ret := ret) ho hl hin hse hcode hy hK (by rw [hT]; exact hcB) hoB hclB hg (hsize.trans hml.symm) (argsL := As) (rest := rest) (fun sig h => hn.trans (hlen sig h)) hstack hW (by rw [hb]; exact hdg)
    (fun vm₁ hW₁ => ⟨hf.1, hf.2, hPc (T.setVm vm₁) hT hW₁⟩)
  dsimp only [Pt.U, Pt.locs, Pt.cells, Pt.slots] at X' e1 e2 h1 h2 h3 st
  subst h1; subst h2; subst h3
  exact ⟨v, (T.setVm vm₁).calling g' mk (Value.ref b :: As).toArray, t, U', L, hT, X', hL, e1, e2, hq, st⟩
section
variable {y : MethodName} {bytes cc : ByteArray} {maxL nL mc ms n index : Nat} {ret : Option FieldType} {ws : List Cond} {rm : Room} {Pc : Array Value → State → Prop} {Qc : Array Value → State → Outcome → State → Prop} {XC : String → State → State → Prop} {free : Addr → Prop} {Ts : List Cond} {own C : String} {b : Addr} {As rest : List Value} {g : JFrame}
theorem vx_runVX {hh : List (Nat × Nat × Nat × Nat)} (S : CallFix p m c cc nL s args Ts own) (hM : vx_Met l y ws rm Pc Qc XC mc ms free) (cw : vx_CVW R s args own C index y bytes maxL ret hh ws rm mc ms n) (hp : PreV s H C b Pc As)
    (hg : g.method = m) (hn : As.length = n) (hsize : g.locals.size = nL) (hstack : g.stack = As.reverse ++ .ref b :: rest) (hW : 2 * g.monitorRoom + (rest.map fun v => v.category).sum ≤ 8) (hdg : decode cc g.pc = .ok (.invokevirtual index, 3)) (hf : cells + mc ≤ R.cells ∧ slots + ms ≤ R.slots) :
    vx_Run p l e R s m args below meth c H locs cells slots mc ms g rest (Qc (Value.ref b :: As).toArray) XC free := by
  obtain ⟨⟨hrc, hrs, hfr, hlo, hws, hcw⟩, hcode, hini, hy, hlen, hl, hin, hse⟩ := cw
  have hK : vx_Back l R p e below s args y 3 8 (PreOf R mc ms Pc) (PostOf Qc mc ms free) (vx_Post XC mc ms free) := vx_backW (hh := hh) (bytes := bytes) (maxL := maxL) (ret := ret) hM hp.1 hrc hrs hfr hlo hws hcw (fun a' U hW => word_at hW (Or.inl (by first | rfl | simp [Cond.onTables, Cond.keeps, Cond.steady])) hini)
  obtain ⟨hx, hb, hml, ho, -⟩ := S
  obtain ⟨-, ⟨cellB, hcB, hoB, hclB⟩, hPc⟩ := hp
  intro T hT X
  rcases vx_callVX X hx (C := C) (hh := hh) (bytes := bytes) (maxL := maxL) (ret := ret) ho hl hin hse hcode hy hK (by rw [hT]; exact hcB) hoB hclB hg (hsize.trans hml.symm) (argsL := As) (rest := rest) (fun sig h => hn.trans (hlen sig h)) hstack hW (by rw [hb]; exact hdg)
    (fun vm₁ hW₁ => ⟨hf.1, hf.2, hPc (T.setVm vm₁) hT hW₁⟩) with ⟨v, vm₁, ⟨U', l2, c2, s2⟩, hW₁, X', ⟨g', mk, t, L, e1, e2, hq, h1, hL, h2, h3⟩, st⟩ | ⟨q, vm₁, ⟨U', l2, c2, s2⟩, hW₁, X', ⟨g', mk, t, L, E, ce, e1, e2, hq, hce, hcv, hcl, h1, hL, h2, h3⟩, st⟩
  · dsimp only [Pt.U, Pt.locs, Pt.cells, Pt.slots] at X' e1 e2 h1 h2 h3 st
    subst h1; subst h2; subst h3
    exact Or.inl ⟨v, (T.setVm vm₁).calling g' mk (Value.ref b :: As).toArray, t, U', L, hT, X', hL, e1, e2, hq, st⟩
  · dsimp only [Pt.U, Pt.locs, Pt.cells, Pt.slots] at X' e1 e2 h1 h2 h3 st hcl
    subst h1; subst h2; subst h3
    exact Or.inr ⟨q, (T.setVm vm₁).calling g' mk (Value.ref b :: As).toArray, t, U', L, E, ce, hT, X', hL, e1, e2, hq, hce, hcv, vx_cls hW₁ hcl, st⟩
theorem vx_runSX {hh : List (Nat × Nat × Nat × Nat)} (S : CallFix p m c cc nL s args Ts own) (hM : vx_Met l y ws rm Pc Qc XC mc ms free) (cw : vx_CSW R s args own index y bytes maxL ret hh ws rm mc ms n) (hp : PreS s H Pc As)
    (hg : g.method = m) (hn : As.length = n) (hsize : g.locals.size = nL) (hstack : g.stack = As.reverse ++ rest) (hW : 2 * g.monitorRoom + (rest.map fun v => v.category).sum ≤ 8) (hdg : decode cc g.pc = .ok (.invokestatic index, 3)) (hf : cells + mc ≤ R.cells ∧ slots + ms ≤ R.slots) :
    vx_Run p l e R s m args below meth c H locs cells slots mc ms g rest (Qc As.toArray) XC free := by
  obtain ⟨⟨hrc, hrs, hfr, hlo, hws, hcw⟩, hcode, hini, hy, hlen, hl, hstt⟩ := cw
  have hK : vx_Back l R p e below s args y 3 8 (PreOf R mc ms Pc) (PostOf Qc mc ms free) (vx_Post XC mc ms free) := vx_backW (hh := hh) (bytes := bytes) (maxL := maxL) (ret := ret) hM hp.1 hrc hrs hfr hlo hws hcw (fun a' U hW => word_at hW (Or.inl (by first | rfl | simp [Cond.onTables, Cond.keeps, Cond.steady])) hini)
  obtain ⟨hx, hb, hml, ho, -⟩ := S
  intro T hT X
  rcases vx_callSX X hx (hh := hh) (bytes := bytes) (maxL := maxL) (ret := ret) ho hl hstt hini hcode hy hK hg (hsize.trans hml.symm) (argsL := As) (rest := rest) (fun sig h => hn.trans (hlen sig h)) hstack hW (by rw [hb]; exact hdg)
    (fun vm₁ hW₁ => ⟨hf.1, hf.2, hp.2 (T.setVm vm₁) hT hW₁⟩) with ⟨v, vm₁, ⟨U', l2, c2, s2⟩, hW₁, X', ⟨g', mk, t, L, e1, e2, hq, h1, hL, h2, h3⟩, st⟩ | ⟨q, vm₁, ⟨U', l2, c2, s2⟩, hW₁, X', ⟨g', mk, t, L, E, ce, e1, e2, hq, hce, hcv, hcl, h1, hL, h2, h3⟩, st⟩
  · dsimp only [Pt.U, Pt.locs, Pt.cells, Pt.slots] at X' e1 e2 h1 h2 h3 st
    subst h1; subst h2; subst h3
    exact Or.inl ⟨v, (T.setVm vm₁).calling g' mk As.toArray, t, U', L, hT, X', hL, e1, e2, hq, st⟩
  · dsimp only [Pt.U, Pt.locs, Pt.cells, Pt.slots] at X' e1 e2 h1 h2 h3 st hcl
    subst h1; subst h2; subst h3
    exact Or.inr ⟨q, (T.setVm vm₁).calling g' mk As.toArray, t, U', L, E, ce, hT, X', hL, e1, e2, hq, hce, hcv, vx_cls hW₁ hcl, st⟩
end
end VXH
theorem vx_ofWH {l : Launch} {y : MethodName} {ws ws' : List Cond} {rm : Room} {Pc : Array Value → State → Prop} {Qc : Array Value → State → Outcome → State → Prop} {XC : String → State → State → Prop} {mc ms : Nat} {free : Addr → Prop} {cc : ByteArray} {maxL : Nat} {ret : Option FieldType} {hh : List (Nat × Nat × Nat × Nat)}
    (hy : plainName y.cls = true) (hw : ws = Cond.codeWith y cc maxL ret hh :: ws')
    (body : ∀ p e s m args below meth c s₁, BodyLoose p l y (headSpec ws rm) cc maxL ret e s m args below meth c s₁ → c.maxLocals = maxL → Pc args s →
      W p l e (headSpec ws rm).room s m args below meth c s.heap [] 0 0 (vx_MQ below Qc XC args s mc ms free) (entryFrame m args maxL)) : vx_Met l y ws rm Pc Qc XC mc ms free := by
  refine MetFree.of_bodyS (code := cc) (maxLocals := maxL) (ret := ret) hy ?_ ?_
  · intro args s m h hn
    obtain ⟨m9, meth, c, hn9, h1, h2, h3, h4, -, h5, h6, -⟩ := Cond.codeWith_spec (atoms_spec (ws := ws) h _ (by rw [hw]; exact List.mem_cons_self))
    cases hn.symm.trans hn9
    exact ⟨meth, c, h1, h2, h3, h4, h5, h6⟩
  · intro p e s m args below meth c s₁ B hml hP _
    have hh0 : s₁.heap = s.heap := by rw [B.state]; rfl
    obtain ⟨t, a1, o, b1, b2, b3⟩ := body p e s m args below meth c s₁ B hml hP s₁ hh0 (Stand.of_body B)
    exact ⟨t, o, a1, b1, b2, b3⟩
/-! ===== END ===== -/

/-! ===== BEGIN printed: names, fields, word lists, decode rows ===== -/
def RX0 : String := "GreyReel$Coder"
def TX0 : u_T := fun k => match k with
  | 0 => ("GreyReel$Coder", "studio", "LGreyReel$Studio;", true)
  | 1 => ("GreyReel$Coder", "bestKind", "I", false)
  | 2 => ("GreyReel$Coder", "bestX", "I", false)
  | 3 => ("GreyReel$Coder", "bestY", "I", false)
  | _ => ("GreyReel$Coder", "bestPrice", "I", false)
def tyX0 : Nat → FieldType := fun k => match k with
  | 0 => .object "GreyReel$Studio"
  | 1 => .int
  | 2 => .int
  | 3 => .int
  | _ => .int
abbrev wsX00 : List Cond := u_ws RX0 TX0 5
theorem nmX0 : ∀ a, a < 5 → ∀ b, b < 5 → a ≠ b → (TX0 a).2.1 ≠ (TX0 b).2.1 := by decide +kernel
theorem tyX0_ok : ∀ k, k < 5 → parseFieldDescriptor (TX0 k).2.2.1 = some (tyX0 k) := by decide +kernel
abbrev cX0_init : ByteArray := prog_2_method_1_code
def yX0_init : MethodName := ⟨RX0, "<init>", "()V"⟩
abbrev cX0_codeAll : ByteArray := prog_2_method_2_code
def yX0_codeAll : MethodName := ⟨RX0, "codeAll", "(LGreyReel$Picture;[I)V"⟩
abbrev cX0_codeBlock : ByteArray := prog_2_method_3_code
def yX0_codeBlock : MethodName := ⟨RX0, "codeBlock", "(LGreyReel$Picture;[II)V"⟩
abbrev cX0_seekVector : ByteArray := prog_2_method_4_code
def yX0_seekVector : MethodName := ⟨RX0, "seekVector", "(LGreyReel$Picture;[II)V"⟩
abbrev cX0_tryVector : ByteArray := prog_2_method_5_code
def yX0_tryVector : MethodName := ⟨RX0, "tryVector", "(LGreyReel$Picture;[IIII)V"⟩
abbrev cX0_tryKind : ByteArray := prog_2_method_6_code
def yX0_tryKind : MethodName := ⟨RX0, "tryKind", "(I[III)V"⟩
abbrev cX0_take : ByteArray := prog_2_method_7_code
def yX0_take : MethodName := ⟨RX0, "take", "(IIII)V"⟩
def RX1 : String := "GreyReel$PacketWriter"
def TX1 : u_T := fun k => match k with
  | 0 => ("GreyReel$PacketWriter", "row", "[I", true)
  | 1 => ("GreyReel$PacketWriter", "kindRow", "[I", true)
  | 2 => ("GreyReel$PacketWriter", "mean", "[I", true)
  | _ => ("GreyReel$PacketWriter", "bitsWritten", "I", false)
def tyX1 : Nat → FieldType := fun k => match k with
  | 0 => .array .int
  | 1 => .array .int
  | 2 => .array .int
  | _ => .int
abbrev wsX10 : List Cond := u_ws RX1 TX1 4
theorem nmX1 : ∀ a, a < 4 → ∀ b, b < 4 → a ≠ b → (TX1 a).2.1 ≠ (TX1 b).2.1 := by decide +kernel
theorem tyX1_ok : ∀ k, k < 4 → parseFieldDescriptor (TX1 k).2.2.1 = some (tyX1 k) := by decide +kernel
abbrev cX1_init : ByteArray := prog_3_method_1_code
def yX1_init : MethodName := ⟨RX1, "<init>", "()V"⟩
abbrev cX1_copyOfBytes : ByteArray := prog_3_method_2_code
def yX1_copyOfBytes : MethodName := ⟨RX1, "copyOfBytes", "(I)[I"⟩
abbrev cX1_write : ByteArray := prog_3_method_3_code
def yX1_write : MethodName := ⟨RX1, "write", "(LGreyReel$Picture;)V"⟩
abbrev cX1_startBand : ByteArray := prog_3_method_4_code
def yX1_startBand : MethodName := ⟨RX1, "startBand", "(LGreyReel$Picture;)V"⟩
abbrev cX1_writeBlock : ByteArray := prog_3_method_5_code
def yX1_writeBlock : MethodName := ⟨RX1, "writeBlock", "(LGreyReel$Picture;I)V"⟩
abbrev cX1_writeKind : ByteArray := prog_3_method_6_code
def yX1_writeKind : MethodName := ⟨RX1, "writeKind", "(I)V"⟩
abbrev cX1_writeSigned : ByteArray := prog_3_method_7_code
def yX1_writeSigned : MethodName := ⟨RX1, "writeSigned", "(I)V"⟩
abbrev cX1_writeLevels : ByteArray := prog_3_method_8_code
def yX1_writeLevels : MethodName := ⟨RX1, "writeLevels", "([II)V"⟩
abbrev cX1_writeNumber : ByteArray := prog_3_method_9_code
def yX1_writeNumber : MethodName := ⟨RX1, "writeNumber", "(II)V"⟩
abbrev cX1_putOnes : ByteArray := prog_3_method_10_code
def yX1_putOnes : MethodName := ⟨RX1, "putOnes", "(I)V"⟩
abbrev cX1_put : ByteArray := prog_3_method_11_code
def yX1_put : MethodName := ⟨RX1, "put", "(II)V"⟩
def RX2 : String := "GreyReel$Picture"
def TX2 : u_T := fun k => match k with
  | 0 => ("GreyReel$Picture", "kind", "[I", true)
  | 1 => ("GreyReel$Picture", "vx", "[I", true)
  | 2 => ("GreyReel$Picture", "vy", "[I", true)
  | 3 => ("GreyReel$Picture", "price", "[I", true)
  | 4 => ("GreyReel$Picture", "level", "[I", true)
  | 5 => ("GreyReel$Picture", "result", "[I", true)
  | 6 => ("GreyReel$Picture", "usedBits", "[I", true)
  | 7 => ("GreyReel$Picture", "got", "[Z", true)
  | 8 => ("GreyReel$Picture", "row", "[I", false)
  | 9 => ("GreyReel$Picture", "number", "I", false)
  | 10 => ("GreyReel$Picture", "q", "I", false)
  | 11 => ("GreyReel$Picture", "error", "I", false)
  | 12 => ("GreyReel$Picture", "isKeyPicture", "Z", false)
  | _ => ("GreyReel$Picture", "isSmoothed", "Z", false)
def tyX2 : Nat → FieldType := fun k => match k with
  | 0 => .array .int
  | 1 => .array .int
  | 2 => .array .int
  | 3 => .array .int
  | 4 => .array .int
  | 5 => .array .int
  | 6 => .array .int
  | 7 => .array .boolean
  | 8 => .array .int
  | 9 => .int
  | 10 => .int
  | 11 => .int
  | 12 => .boolean
  | _ => .boolean
abbrev wsX20 : List Cond := u_ws RX2 TX2 14
theorem nmX2 : ∀ a, a < 14 → ∀ b, b < 14 → a ≠ b → (TX2 a).2.1 ≠ (TX2 b).2.1 := by decide +kernel
theorem tyX2_ok : ∀ k, k < 14 → parseFieldDescriptor (TX2 k).2.2.1 = some (tyX2 k) := by decide +kernel
abbrev cX2_init : ByteArray := prog_4_method_1_code
def yX2_init : MethodName := ⟨RX2, "<init>", "()V"⟩
abbrev cX2_bytesIn : ByteArray := prog_4_method_2_code
def yX2_bytesIn : MethodName := ⟨RX2, "bytesIn", "(I)I"⟩
abbrev cX2_firstByteOf : ByteArray := prog_4_method_3_code
def yX2_firstByteOf : MethodName := ⟨RX2, "firstByteOf", "(I)I"⟩
abbrev cX2_bytesInAll : ByteArray := prog_4_method_4_code
def yX2_bytesInAll : MethodName := ⟨RX2, "bytesInAll", "()I"⟩
abbrev cX2_levelsNotZero : ByteArray := prog_4_method_5_code
def yX2_levelsNotZero : MethodName := ⟨RX2, "levelsNotZero", "(I)I"⟩
abbrev cX2_blocksOf : ByteArray := prog_4_method_6_code
def yX2_blocksOf : MethodName := ⟨RX2, "blocksOf", "(I)I"⟩
abbrev cX2_freshBlocks : ByteArray := prog_4_method_7_code
def yX2_freshBlocks : MethodName := ⟨RX2, "freshBlocks", "()I"⟩
abbrev cX2_bandsGot : ByteArray := prog_4_method_8_code
def yX2_bandsGot : MethodName := ⟨RX2, "bandsGot", "()I"⟩
abbrev cX2_expectedX : ByteArray := prog_4_method_9_code
def yX2_expectedX : MethodName := ⟨RX2, "expectedX", "(I)I"⟩
abbrev cX2_expectedY : ByteArray := prog_4_method_10_code
def yX2_expectedY : MethodName := ⟨RX2, "expectedY", "(I)I"⟩
abbrev cX2_digestOn : ByteArray := prog_4_method_11_code
def yX2_digestOn : MethodName := ⟨RX2, "digestOn", "(J)J"⟩
abbrev cX2_digestPacket : ByteArray := prog_4_method_12_code
def yX2_digestPacket : MethodName := ⟨RX2, "digestPacket", "(JI)J"⟩
def RX3 : String := "GreyReel$Studio"
def TX3 : u_T := fun k => match k with
  | 0 => ("GreyReel$Studio", "ahead", "[I", true)
  | 1 => ("GreyReel$Studio", "quarterNumbers", "[I", true)
  | 2 => ("GreyReel$Studio", "made", "[I", true)
  | _ => ("GreyReel$Studio", "foretold", "[I", true)
def tyX3 : Nat → FieldType := fun k => match k with
  | 0 => .array .int
  | 1 => .array .int
  | 2 => .array .int
  | _ => .array .int
abbrev wsX30 : List Cond := u_ws RX3 TX3 4
theorem nmX3 : ∀ a, a < 4 → ∀ b, b < 4 → a ≠ b → (TX3 a).2.1 ≠ (TX3 b).2.1 := by decide +kernel
theorem tyX3_ok : ∀ k, k < 4 → parseFieldDescriptor (TX3 k).2.2.1 = some (tyX3 k) := by decide +kernel
abbrev cX3_init : ByteArray := prog_5_method_1_code
def yX3_init : MethodName := ⟨RX3, "<init>", "()V"⟩
abbrev cX3_lookAhead : ByteArray := prog_5_method_2_code
def yX3_lookAhead : MethodName := ⟨RX3, "lookAhead", "([I)V"⟩
abbrev cX3_foretell : ByteArray := prog_5_method_3_code
def yX3_foretell : MethodName := ⟨RX3, "foretell", "(IIII)V"⟩
abbrev cX3_foretellMoved : ByteArray := prog_5_method_4_code
def yX3_foretellMoved : MethodName := ⟨RX3, "foretellMoved", "(III)V"⟩
abbrev cX3_differenceMoved : ByteArray := prog_5_method_5_code
def yX3_differenceMoved : MethodName := ⟨RX3, "differenceMoved", "([IIIII)I"⟩
abbrev cX3_startAhead : ByteArray := prog_5_method_6_code
def yX3_startAhead : MethodName := ⟨RX3, "startAhead", "(III)I"⟩
abbrev cX3_between : ByteArray := prog_5_method_7_code
def yX3_between : MethodName := ⟨RX3, "between", "(III)I"⟩
abbrev cX3_foretellFlat : ByteArray := prog_5_method_8_code
def yX3_foretellFlat : MethodName := ⟨RX3, "foretellFlat", "(I)V"⟩
abbrev cX3_foretellLeft : ByteArray := prog_5_method_9_code
def yX3_foretellLeft : MethodName := ⟨RX3, "foretellLeft", "(I)V"⟩
abbrev cX3_foretellTrend : ByteArray := prog_5_method_10_code
def yX3_foretellTrend : MethodName := ⟨RX3, "foretellTrend", "(I)V"⟩
abbrev cX3_difference : ByteArray := prog_5_method_11_code
def yX3_difference : MethodName := ⟨RX3, "difference", "([II)I"⟩
abbrev cX3_measure : ByteArray := prog_5_method_12_code
def yX3_measure : MethodName := ⟨RX3, "measure", "([III[I)Z"⟩
abbrev cX3_levelOf : ByteArray := prog_5_method_13_code
def yX3_levelOf : MethodName := ⟨RX3, "levelOf", "(II)I"⟩
abbrev cX3_makeBlock : ByteArray := prog_5_method_14_code
def yX3_makeBlock : MethodName := ⟨RX3, "makeBlock", "(II[I)V"⟩
abbrev cX3_makeForetold : ByteArray := prog_5_method_15_code
def yX3_makeForetold : MethodName := ⟨RX3, "makeForetold", "(I)V"⟩
abbrev cX3_placeInBlock : ByteArray := prog_5_method_16_code
def yX3_placeInBlock : MethodName := ⟨RX3, "placeInBlock", "(II)I"⟩
abbrev cX3_pointOf : ByteArray := prog_5_method_17_code
def yX3_pointOf : MethodName := ⟨RX3, "pointOf", "(II)I"⟩
abbrev cX3_turnQuarter : ByteArray := prog_5_method_18_code
def yX3_turnQuarter : MethodName := ⟨RX3, "turnQuarter", "()V"⟩
abbrev cX3_turnFour : ByteArray := prog_5_method_19_code
def yX3_turnFour : MethodName := ⟨RX3, "turnFour", "(II)V"⟩
abbrev cX3_smooth : ByteArray := prog_5_method_20_code
def yX3_smooth : MethodName := ⟨RX3, "smooth", "(I)V"⟩
abbrev cX3_smoothAcross : ByteArray := prog_5_method_21_code
def yX3_smoothAcross : MethodName := ⟨RX3, "smoothAcross", "(III)V"⟩
def RX4 : String := "GreyReel$Viewer"
def TX4 : u_T := fun k => match k with
  | 0 => ("GreyReel$Viewer", "studio", "LGreyReel$Studio;", true)
  | 1 => ("GreyReel$Viewer", "screen", "[I", true)
  | _ => ("GreyReel$Viewer", "shownPictures", "I", false)
def tyX4 : Nat → FieldType := fun k => match k with
  | 0 => .object "GreyReel$Studio"
  | 1 => .array .int
  | _ => .int
abbrev wsX40 : List Cond := u_ws RX4 TX4 3
theorem nmX4 : ∀ a, a < 3 → ∀ b, b < 3 → a ≠ b → (TX4 a).2.1 ≠ (TX4 b).2.1 := by decide +kernel
theorem tyX4_ok : ∀ k, k < 3 → parseFieldDescriptor (TX4 k).2.2.1 = some (tyX4 k) := by decide +kernel
abbrev cX4_init : ByteArray := prog_6_method_1_code
def yX4_init : MethodName := ⟨RX4, "<init>", "()V"⟩
abbrev cX4_make : ByteArray := prog_6_method_2_code
def yX4_make : MethodName := ⟨RX4, "make", "(LGreyReel$Picture;)V"⟩
abbrev cX4_conceal : ByteArray := prog_6_method_3_code
def yX4_conceal : MethodName := ⟨RX4, "conceal", "(LGreyReel$Picture;I)V"⟩
abbrev cX4_takeMade : ByteArray := prog_6_method_4_code
def yX4_takeMade : MethodName := ⟨RX4, "takeMade", "()V"⟩
def RX5 : String := "GreyReel"
def TX5 : u_T := fun k => match k with
  | 0 => ("GreyReel", "canvas", "[I", true)
  | 1 => ("GreyReel", "reel", "[LGreyReel$Picture;", true)
  | 2 => ("GreyReel", "coder", "LGreyReel$Coder;", true)
  | 3 => ("GreyReel", "writer", "LGreyReel$PacketWriter;", true)
  | 4 => ("GreyReel", "viewer", "LGreyReel$Viewer;", true)
  | 5 => ("GreyReel", "canvasBefore", "[I", true)
  | 6 => ("GreyReel", "draft", "LGreyReel$Picture;", false)
  | 7 => ("GreyReel", "coded", "I", false)
  | 8 => ("GreyReel", "deltasBehindKey", "I", false)
  | 9 => ("GreyReel", "nextStep", "I", false)
  | 10 => ("GreyReel", "bytesWanted", "I", false)
  | 11 => ("GreyReel", "keyInterval", "I", false)
  | 12 => ("GreyReel", "isSmoothing", "Z", false)
  | _ => ("GreyReel", "isKeyAsked", "Z", false)
def tyX5 : Nat → FieldType := fun k => match k with
  | 0 => .array .int
  | 1 => .array (.object "GreyReel$Picture")
  | 2 => .object "GreyReel$Coder"
  | 3 => .object "GreyReel$PacketWriter"
  | 4 => .object "GreyReel$Viewer"
  | 5 => .array .int
  | 6 => .object "GreyReel$Picture"
  | 7 => .int
  | 8 => .int
  | 9 => .int
  | 10 => .int
  | 11 => .int
  | 12 => .boolean
  | _ => .boolean
abbrev wsX50 : List Cond := u_ws RX5 TX5 14
theorem nmX5 : ∀ a, a < 14 → ∀ b, b < 14 → a ≠ b → (TX5 a).2.1 ≠ (TX5 b).2.1 := by decide +kernel
theorem tyX5_ok : ∀ k, k < 14 → parseFieldDescriptor (TX5 k).2.2.1 = some (tyX5 k) := by decide +kernel
abbrev cX5_init : ByteArray := prog_1_method_1_code
def yX5_init : MethodName := ⟨RX5, "<init>", "()V"⟩
abbrev cX5_fill : ByteArray := prog_1_method_2_code
def yX5_fill : MethodName := ⟨RX5, "fill", "(I)I"⟩
abbrev cX5_box : ByteArray := prog_1_method_3_code
def yX5_box : MethodName := ⟨RX5, "box", "(IIIII)I"⟩
abbrev cX5_ramp : ByteArray := prog_1_method_4_code
def yX5_ramp : MethodName := ⟨RX5, "ramp", "(III)I"⟩
abbrev cX5_noise : ByteArray := prog_1_method_5_code
def yX5_noise : MethodName := ⟨RX5, "noise", "(II)I"⟩
abbrev cX5_shift : ByteArray := prog_1_method_6_code
def yX5_shift : MethodName := ⟨RX5, "shift", "(II)I"⟩
abbrev cX5_setStep : ByteArray := prog_1_method_8_code
def yX5_setStep : MethodName := ⟨RX5, "setStep", "(I)I"⟩
abbrev cX5_setTarget : ByteArray := prog_1_method_9_code
def yX5_setTarget : MethodName := ⟨RX5, "setTarget", "(I)I"⟩
abbrev cX5_setSmoothing : ByteArray := prog_1_method_11_code
def yX5_setSmoothing : MethodName := ⟨RX5, "setSmoothing", "(Z)Z"⟩
abbrev cX5_askKey : ByteArray := prog_1_method_12_code
def yX5_askKey : MethodName := ⟨RX5, "askKey", "()Z"⟩
abbrev cX5_code : ByteArray := prog_1_method_13_code
def yX5_code : MethodName := ⟨RX5, "code", "()I"⟩
abbrev cX5_pictures : ByteArray := prog_1_method_14_code
def yX5_pictures : MethodName := ⟨RX5, "pictures", "()I"⟩
abbrev cX5_step : ByteArray := prog_1_method_15_code
def yX5_step : MethodName := ⟨RX5, "step", "()I"⟩
abbrev cX5_isKey : ByteArray := prog_1_method_16_code
def yX5_isKey : MethodName := ⟨RX5, "isKey", "(I)Z"⟩
abbrev cX5_kindOf : ByteArray := prog_1_method_18_code
def yX5_kindOf : MethodName := ⟨RX5, "kindOf", "(II)I"⟩
abbrev cX5_vectorX : ByteArray := prog_1_method_19_code
def yX5_vectorX : MethodName := ⟨RX5, "vectorX", "(II)I"⟩
abbrev cX5_vectorY : ByteArray := prog_1_method_20_code
def yX5_vectorY : MethodName := ⟨RX5, "vectorY", "(II)I"⟩
abbrev cX5_levels : ByteArray := prog_1_method_21_code
def yX5_levels : MethodName := ⟨RX5, "levels", "(II)I"⟩
abbrev cX5_resultAt : ByteArray := prog_1_method_23_code
def yX5_resultAt : MethodName := ⟨RX5, "resultAt", "(III)I"⟩
abbrev cX5_errorOf : ByteArray := prog_1_method_24_code
def yX5_errorOf : MethodName := ⟨RX5, "errorOf", "(I)I"⟩
abbrev cX5_bytes : ByteArray := prog_1_method_25_code
def yX5_bytes : MethodName := ⟨RX5, "bytes", "(II)I"⟩
abbrev cX5_bits : ByteArray := prog_1_method_26_code
def yX5_bits : MethodName := ⟨RX5, "bits", "(II)I"⟩
abbrev cX5_byteAt : ByteArray := prog_1_method_27_code
def yX5_byteAt : MethodName := ⟨RX5, "byteAt", "(III)I"⟩
abbrev cX5_hand : ByteArray := prog_1_method_29_code
def yX5_hand : MethodName := ⟨RX5, "hand", "(II)Z"⟩
abbrev cX5_show : ByteArray := prog_1_method_31_code
def yX5_show : MethodName := ⟨RX5, "show", "()I"⟩
abbrev cX5_shown : ByteArray := prog_1_method_32_code
def yX5_shown : MethodName := ⟨RX5, "shown", "()I"⟩
abbrev cX5_shownAt : ByteArray := prog_1_method_33_code
def yX5_shownAt : MethodName := ⟨RX5, "shownAt", "(II)I"⟩
abbrev cX5_drift : ByteArray := prog_1_method_34_code
def yX5_drift : MethodName := ⟨RX5, "drift", "()I"⟩
abbrev cX5_bytesWith : ByteArray := prog_1_method_36_code
def yX5_bytesWith : MethodName := ⟨RX5, "bytesWith", "(I)I"⟩
abbrev cX5_priceOf : ByteArray := prog_1_method_37_code
def yX5_priceOf : MethodName := ⟨RX5, "priceOf", "(I)I"⟩
abbrev cX5_driftNext : ByteArray := prog_1_method_38_code
def yX5_driftNext : MethodName := ⟨RX5, "driftNext", "()I"⟩
abbrev cX5_bytesOfAll : ByteArray := prog_1_method_39_code
def yX5_bytesOfAll : MethodName := ⟨RX5, "bytesOfAll", "()I"⟩
abbrev cX5_meanError : ByteArray := prog_1_method_40_code
def yX5_meanError : MethodName := ⟨RX5, "meanError", "()D"⟩
abbrev cX5_digest : ByteArray := prog_1_method_41_code
def yX5_digest : MethodName := ⟨RX5, "digest", "()J"⟩
abbrev cX5_isWithin : ByteArray := prog_1_method_42_code
def yX5_isWithin : MethodName := ⟨RX5, "isWithin", "(III)Z"⟩
abbrev cX5_clip : ByteArray := prog_1_method_43_code
def yX5_clip : MethodName := ⟨RX5, "clip", "(I)I"⟩
abbrev cX5_onRow : ByteArray := prog_1_method_44_code
def yX5_onRow : MethodName := ⟨RX5, "onRow", "(II)I"⟩
abbrev cX5_placeIn : ByteArray := prog_1_method_45_code
def yX5_placeIn : MethodName := ⟨RX5, "placeIn", "(II)I"⟩
abbrev cX5_pointAt : ByteArray := prog_1_method_46_code
def yX5_pointAt : MethodName := ⟨RX5, "pointAt", "(II)I"⟩
abbrev cX5_firstPointOf : ByteArray := prog_1_method_47_code
def yX5_firstPointOf : MethodName := ⟨RX5, "firstPointOf", "(I)I"⟩
abbrev cX5_isFirstOfBand : ByteArray := prog_1_method_48_code
def yX5_isFirstOfBand : MethodName := ⟨RX5, "isFirstOfBand", "(I)Z"⟩
abbrev cX5_folded : ByteArray := prog_1_method_49_code
def yX5_folded : MethodName := ⟨RX5, "folded", "(I)I"⟩
abbrev cX5_distance : ByteArray := prog_1_method_50_code
def yX5_distance : MethodName := ⟨RX5, "distance", "([I[I)I"⟩
abbrev cX5_digestPoints : ByteArray := prog_1_method_51_code
def yX5_digestPoints : MethodName := ⟨RX5, "digestPoints", "(J[I)J"⟩
abbrev cX5_pictureOrNull : ByteArray := prog_1_method_52_code
def yX5_pictureOrNull : MethodName := ⟨RX5, "pictureOrNull", "(I)LGreyReel$Picture;"⟩
abbrev cX5_pictureAt : ByteArray := prog_1_method_53_code
def yX5_pictureAt : MethodName := ⟨RX5, "pictureAt", "(I)LGreyReel$Picture;"⟩
abbrev cX5_refuseIfFull : ByteArray := prog_1_method_54_code
def yX5_refuseIfFull : MethodName := ⟨RX5, "refuseIfFull", "()V"⟩
abbrev cX5_isKeyDue : ByteArray := prog_1_method_55_code
def yX5_isKeyDue : MethodName := ⟨RX5, "isKeyDue", "()Z"⟩
abbrev cX5_draftNext : ByteArray := prog_1_method_56_code
def yX5_draftNext : MethodName := ⟨RX5, "draftNext", "(I)V"⟩
abbrev cX5_steer : ByteArray := prog_1_method_57_code
def yX5_steer : MethodName := ⟨RX5, "steer", "(LGreyReel$Picture;)V"⟩
abbrev cX5_handOver : ByteArray := prog_1_method_58_code
def yX5_handOver : MethodName := ⟨RX5, "handOver", "(LGreyReel$Picture;I)Z"⟩
def RX6 : String := "GreyReelModel"
def TX6 : u_T := fun k => match k with
  | _ => ("", "", "", false)
def tyX6 : Nat → FieldType := fun k => match k with
  | _ => .int
abbrev wsX60 : List Cond := u_ws RX6 TX6 0
theorem nmX6 : ∀ a, a < 0 → ∀ b, b < 0 → a ≠ b → (TX6 a).2.1 ≠ (TX6 b).2.1 := by decide +kernel
theorem tyX6_ok : ∀ k, k < 0 → parseFieldDescriptor (TX6 k).2.2.1 = some (tyX6 k) := by decide +kernel
def RJx145de : String := "java/io/Serializable"
def TJx145de : u_T := fun k => match k with
  | _ => ("", "", "", false)
def tyJx145de : Nat → FieldType := fun k => match k with
  | _ => .int
abbrev wsJx145de0 : List Cond := u_ws RJx145de TJx145de 0
theorem nmJx145de : ∀ a, a < 0 → ∀ b, b < 0 → a ≠ b → (TJx145de a).2.1 ≠ (TJx145de b).2.1 := by decide +kernel
theorem tyJx145de_ok : ∀ k, k < 0 → parseFieldDescriptor (TJx145de k).2.2.1 = some (tyJx145de k) := by decide +kernel
def RJx8e188 : String := "java/lang/Cloneable"
def TJx8e188 : u_T := fun k => match k with
  | _ => ("", "", "", false)
def tyJx8e188 : Nat → FieldType := fun k => match k with
  | _ => .int
abbrev wsJx8e1880 : List Cond := u_ws RJx8e188 TJx8e188 0
theorem nmJx8e188 : ∀ a, a < 0 → ∀ b, b < 0 → a ≠ b → (TJx8e188 a).2.1 ≠ (TJx8e188 b).2.1 := by decide +kernel
theorem tyJx8e188_ok : ∀ k, k < 0 → parseFieldDescriptor (TJx8e188 k).2.2.1 = some (tyJx8e188 k) := by decide +kernel
def RJ9 : String := "java/lang/Math"
def TJ9 : u_T := fun k => match k with
  | _ => ("", "", "", false)
def tyJ9 : Nat → FieldType := fun k => match k with
  | _ => .int
abbrev wsJ90 : List Cond := u_ws RJ9 TJ9 0
theorem nmJ9 : ∀ a, a < 0 → ∀ b, b < 0 → a ≠ b → (TJ9 a).2.1 ≠ (TJ9 b).2.1 := by decide +kernel
theorem tyJ9_ok : ∀ k, k < 0 → parseFieldDescriptor (TJ9 k).2.2.1 = some (tyJ9 k) := by decide +kernel
abbrev cJ9_abs_0f7a4 : ByteArray := prog_14_method_59_code
def yJ9_abs_0f7a4 : MethodName := ⟨RJ9, "abs", "(I)I"⟩
abbrev cJ9_max_7cf53 : ByteArray := prog_14_method_65_code
def yJ9_max_7cf53 : MethodName := ⟨RJ9, "max", "(II)I"⟩
abbrev cJ9_min_7cf53 : ByteArray := prog_14_method_69_code
def yJ9_min_7cf53 : MethodName := ⟨RJ9, "min", "(II)I"⟩
def RJ0 : String := "java/lang/String"
def TJ0 : u_T := fun k => match k with
  | _ => ("", "", "", false)
def tyJ0 : Nat → FieldType := fun k => match k with
  | _ => .int
abbrev wsJ00 : List Cond := u_ws RJ0 TJ0 0
theorem nmJ0 : ∀ a, a < 0 → ∀ b, b < 0 → a ≠ b → (TJ0 a).2.1 ≠ (TJ0 b).2.1 := by decide +kernel
theorem tyJ0_ok : ∀ k, k < 0 → parseFieldDescriptor (TJ0 k).2.2.1 = some (tyJ0 k) := by decide +kernel
def RJ10 : String := "java/lang/System"
def TJ10 : u_T := fun k => match k with
  | _ => ("", "", "", false)
def tyJ10 : Nat → FieldType := fun k => match k with
  | _ => .int
abbrev wsJ100 : List Cond := u_ws RJ10 TJ10 0
theorem nmJ10 : ∀ a, a < 0 → ∀ b, b < 0 → a ≠ b → (TJ10 a).2.1 ≠ (TJ10 b).2.1 := by decide +kernel
theorem tyJ10_ok : ∀ k, k < 0 → parseFieldDescriptor (TJ10 k).2.2.1 = some (tyJ10 k) := by decide +kernel
def RJ7 : String := "java/util/Arrays"
def TJ7 : u_T := fun k => match k with
  | _ => ("", "", "", false)
def tyJ7 : Nat → FieldType := fun k => match k with
  | _ => .int
abbrev wsJ70 : List Cond := u_ws RJ7 TJ7 0
theorem nmJ7 : ∀ a, a < 0 → ∀ b, b < 0 → a ≠ b → (TJ7 a).2.1 ≠ (TJ7 b).2.1 := by decide +kernel
theorem tyJ7_ok : ∀ k, k < 0 → parseFieldDescriptor (TJ7 k).2.2.1 = some (tyJ7 k) := by decide +kernel
abbrev cJ7_fill_53178 : ByteArray := prog_19_method_103_code
def yJ7_fill_53178 : MethodName := ⟨RJ7, "fill", "([II)V"⟩
abbrev cJ7_copyOf_59c91 : ByteArray := prog_19_method_123_code
def yJ7_copyOf_59c91 : MethodName := ⟨RJ7, "copyOf", "([II)[I"⟩
def RL : String := "GreyReelLaw"
abbrev cL_below : ByteArray := method_2_code
def yL_below : MethodName := ⟨RL, "below", "(II)I"⟩
abbrev cL_cell : ByteArray := method_3_code
def yL_cell : MethodName := ⟨RL, "cell", "([II)I"⟩
abbrev cL_paint : ByteArray := method_4_code
def yL_paint : MethodName := ⟨RL, "paint", "(LGreyReel;II)V"⟩
abbrev cL_isSound : ByteArray := method_5_code
def yL_isSound : MethodName := ⟨RL, "isSound", "(LGreyReel;I)Z"⟩
abbrev cL_law : ByteArray := code
def yL_law : MethodName := ⟨RL, "law", "([I)Z"⟩
def wsX3_init : List Cond := .code yX3_init cX3_init 1 none :: ([.methodLink RX3 5 objectInit, .instanceMethod objectInit, .code objectInit ⟨#[0xb1]⟩ 1 none, .arrayClass .int, .fieldLink RX3 11 "GreyReel$Studio" "ahead" "[I", .fieldLink RX3 15 "GreyReel$Studio" "quarterNumbers" "[I", .fieldLink RX3 18 "GreyReel$Studio" "made" "[I", .fieldLink RX3 21 "GreyReel$Studio" "foretold" "[I"] ++ wsX30)
def wsX0_init : List Cond := .code yX0_init cX0_init 1 none :: ([.methodLink RX0 3 objectInit, .instanceMethod objectInit, .code objectInit ⟨#[0xb1]⟩ 1 none, .classLink RX0 9 RX3, .instantiable RX3 4, .initialized RX3, .fieldLink RX0 12 "GreyReel$Coder" "studio" "LGreyReel$Studio;", .fieldLink RX0 18 "GreyReel$Coder" "bestKind" "I", .fieldLink RX0 22 "GreyReel$Coder" "bestX" "I", .fieldLink RX0 25 "GreyReel$Coder" "bestY" "I", .fieldLink RX0 28 "GreyReel$Coder" "bestPrice" "I", .instanceMethod yX3_init, .code yX3_init cX3_init 1 none, .methodLink RX3 5 objectInit, .arrayClass .int, .fieldLink RX3 11 "GreyReel$Studio" "ahead" "[I", .fieldLink RX3 15 "GreyReel$Studio" "quarterNumbers" "[I", .fieldLink RX3 18 "GreyReel$Studio" "made" "[I", .fieldLink RX3 21 "GreyReel$Studio" "foretold" "[I"] ++ wsX30 ++ wsX00)
def wsX5_isFirstOfBand : List Cond := .code yX5_isFirstOfBand cX5_isFirstOfBand 1 (some .boolean) :: ([])
def wsX2_expectedX : List Cond := .code yX2_expectedX cX2_expectedX 2 (some .int) :: ([.fieldLink RX2 15 "GreyReel$Picture" "vx" "[I", .static yX5_isFirstOfBand, .initialized RX5, .code yX5_isFirstOfBand cX5_isFirstOfBand 1 (some .boolean)] ++ wsX20)
def wsX2_expectedY : List Cond := .code yX2_expectedY cX2_expectedY 2 (some .int) :: ([.fieldLink RX2 18 "GreyReel$Picture" "vy" "[I", .static yX5_isFirstOfBand, .initialized RX5, .code yX5_isFirstOfBand cX5_isFirstOfBand 1 (some .boolean)] ++ wsX20)
def wsX3_startAhead : List Cond := .code yX3_startAhead cX3_startAhead 8 (some .int) :: ([])
def wsX5_firstPointOf : List Cond := .code yX5_firstPointOf cX5_firstPointOf 1 (some .int) :: ([])
def wsX3_between : List Cond := .code yX3_between cX3_between 6 (some .int) :: ([.fieldLink RX3 11 "GreyReel$Studio" "ahead" "[I"] ++ wsX30)
def wsX3_differenceMoved : List Cond := .code yX3_differenceMoved cX3_differenceMoved 14 (some .int) :: ([.methodLink RX3 53 Lib.Math.abs.name, .static Lib.Math.abs.name, .initialized "java/lang/Math", .code Lib.Math.abs.name Lib.Math.abs.code 1 (some .int), .methodLink RX3 42 yX3_startAhead, .instanceMethod yX3_startAhead, .selects RX3 yX3_startAhead yX3_startAhead, .initialized RX3, .code yX3_startAhead cX3_startAhead 8 (some .int), .static yX5_firstPointOf, .initialized RX5, .code yX5_firstPointOf cX5_firstPointOf 1 (some .int), .methodLink RX3 46 yX3_between, .instanceMethod yX3_between, .selects RX3 yX3_between yX3_between, .code yX3_between cX3_between 6 (some .int), .fieldLink RX3 11 "GreyReel$Studio" "ahead" "[I"] ++ wsX30)
def wsX0_take : List Cond := .code yX0_take cX0_take 5 none :: ([.fieldLink RX0 18 "GreyReel$Coder" "bestKind" "I", .fieldLink RX0 22 "GreyReel$Coder" "bestX" "I", .fieldLink RX0 25 "GreyReel$Coder" "bestY" "I", .fieldLink RX0 28 "GreyReel$Coder" "bestPrice" "I"] ++ wsX00)
def wsX0_tryVector_r1 : List Cond := [Cond.methodLink RX0 115 Lib.Math.abs.name, Cond.static Lib.Math.abs.name, Cond.initialized "java/lang/Math", Cond.code Lib.Math.abs.name Lib.Math.abs.code 1 (some .int), Cond.fieldLink RX0 41 "GreyReel$Picture" "q" "I", Cond.fieldLink RX0 12 "GreyReel$Coder" "studio" "LGreyReel$Studio;", Cond.fieldLink RX0 28 "GreyReel$Coder" "bestPrice" "I", Cond.methodLink RX0 84 yX2_expectedX, Cond.instanceMethod yX2_expectedX, Cond.selects RX2 yX2_expectedX yX2_expectedX, Cond.initialized RX2, Cond.code yX2_expectedX cX2_expectedX 2 (some .int), Cond.fieldLink RX2 15 "GreyReel$Picture" "vx" "[I", Cond.static yX5_isFirstOfBand, Cond.initialized RX5, Cond.code yX5_isFirstOfBand cX5_isFirstOfBand 1 (some .boolean), Cond.methodLink RX0 88 yX2_expectedY, Cond.instanceMethod yX2_expectedY, Cond.selects RX2 yX2_expectedY yX2_expectedY, Cond.code yX2_expectedY cX2_expectedY 2 (some .int), Cond.fieldLink RX2 18 "GreyReel$Picture" "vy" "[I", Cond.methodLink RX0 120 yX3_differenceMoved, Cond.instanceMethod yX3_differenceMoved, Cond.selects RX3 yX3_differenceMoved yX3_differenceMoved]
def wsX0_tryVector_r2 : List Cond := [Cond.initialized RX3, Cond.code yX3_differenceMoved cX3_differenceMoved 14 (some .int), Cond.methodLink RX3 53 Lib.Math.abs.name, Cond.methodLink RX3 42 yX3_startAhead, Cond.instanceMethod yX3_startAhead, Cond.selects RX3 yX3_startAhead yX3_startAhead, Cond.code yX3_startAhead cX3_startAhead 8 (some .int), Cond.static yX5_firstPointOf, Cond.code yX5_firstPointOf cX5_firstPointOf 1 (some .int), Cond.methodLink RX3 46 yX3_between, Cond.instanceMethod yX3_between, Cond.selects RX3 yX3_between yX3_between, Cond.code yX3_between cX3_between 6 (some .int), Cond.fieldLink RX3 11 "GreyReel$Studio" "ahead" "[I", Cond.methodLink RX0 124 yX0_take, Cond.instanceMethod yX0_take, Cond.selects RX0 yX0_take yX0_take, Cond.initialized RX0, Cond.code yX0_take cX0_take 5 none, Cond.fieldLink RX0 18 "GreyReel$Coder" "bestKind" "I", Cond.fieldLink RX0 22 "GreyReel$Coder" "bestX" "I", Cond.fieldLink RX0 25 "GreyReel$Coder" "bestY" "I"]
def wsX0_tryVector : List Cond := .code yX0_tryVector cX0_tryVector 9 none :: ((wsX0_tryVector_r1 ++ wsX0_tryVector_r2) ++ wsX20 ++ wsX00 ++ wsX30)
def wsX5_isWithin : List Cond := .code yX5_isWithin cX5_isWithin 3 (some .boolean) :: ([])
def wsX0_seekVector_r1 : List Cond := [Cond.fieldLink RX0 22 "GreyReel$Coder" "bestX" "I", Cond.fieldLink RX0 25 "GreyReel$Coder" "bestY" "I", Cond.methodLink RX0 107 yX0_tryVector, Cond.instanceMethod yX0_tryVector, Cond.selects RX0 yX0_tryVector yX0_tryVector, Cond.initialized RX0, Cond.code yX0_tryVector cX0_tryVector 9 none, Cond.methodLink RX0 115 Lib.Math.abs.name, Cond.static Lib.Math.abs.name, Cond.initialized "java/lang/Math", Cond.code Lib.Math.abs.name Lib.Math.abs.code 1 (some .int), Cond.fieldLink RX0 41 "GreyReel$Picture" "q" "I", Cond.fieldLink RX0 12 "GreyReel$Coder" "studio" "LGreyReel$Studio;", Cond.fieldLink RX0 28 "GreyReel$Coder" "bestPrice" "I", Cond.methodLink RX0 84 yX2_expectedX, Cond.instanceMethod yX2_expectedX, Cond.selects RX2 yX2_expectedX yX2_expectedX, Cond.initialized RX2, Cond.code yX2_expectedX cX2_expectedX 2 (some .int), Cond.fieldLink RX2 15 "GreyReel$Picture" "vx" "[I", Cond.static yX5_isFirstOfBand, Cond.initialized RX5, Cond.code yX5_isFirstOfBand cX5_isFirstOfBand 1 (some .boolean), Cond.methodLink RX0 88 yX2_expectedY]
def wsX0_seekVector_r2 : List Cond := [Cond.instanceMethod yX2_expectedY, Cond.selects RX2 yX2_expectedY yX2_expectedY, Cond.code yX2_expectedY cX2_expectedY 2 (some .int), Cond.fieldLink RX2 18 "GreyReel$Picture" "vy" "[I", Cond.methodLink RX0 120 yX3_differenceMoved, Cond.instanceMethod yX3_differenceMoved, Cond.selects RX3 yX3_differenceMoved yX3_differenceMoved, Cond.initialized RX3, Cond.code yX3_differenceMoved cX3_differenceMoved 14 (some .int), Cond.methodLink RX3 53 Lib.Math.abs.name, Cond.methodLink RX3 42 yX3_startAhead, Cond.instanceMethod yX3_startAhead, Cond.selects RX3 yX3_startAhead yX3_startAhead, Cond.code yX3_startAhead cX3_startAhead 8 (some .int), Cond.static yX5_firstPointOf, Cond.code yX5_firstPointOf cX5_firstPointOf 1 (some .int), Cond.methodLink RX3 46 yX3_between, Cond.instanceMethod yX3_between, Cond.selects RX3 yX3_between yX3_between, Cond.code yX3_between cX3_between 6 (some .int), Cond.fieldLink RX3 11 "GreyReel$Studio" "ahead" "[I", Cond.methodLink RX0 124 yX0_take, Cond.instanceMethod yX0_take, Cond.selects RX0 yX0_take yX0_take]
def wsX0_seekVector_r3 : List Cond := [Cond.code yX0_take cX0_take 5 none, Cond.fieldLink RX0 18 "GreyReel$Coder" "bestKind" "I", Cond.static yX5_isWithin, Cond.code yX5_isWithin cX5_isWithin 3 (some .boolean)]
def wsX0_seekVector : List Cond := .code yX0_seekVector cX0_seekVector 8 none :: ((wsX0_seekVector_r1 ++ (wsX0_seekVector_r2 ++ wsX0_seekVector_r3)) ++ wsX00 ++ wsX20 ++ wsX30)
def wsX3_foretellMoved : List Cond := .code yX3_foretellMoved cX3_foretellMoved 9 none :: ([.fieldLink RX3 21 "GreyReel$Studio" "foretold" "[I", .methodLink RX3 42 yX3_startAhead, .instanceMethod yX3_startAhead, .selects RX3 yX3_startAhead yX3_startAhead, .initialized RX3, .code yX3_startAhead cX3_startAhead 8 (some .int), .methodLink RX3 46 yX3_between, .instanceMethod yX3_between, .selects RX3 yX3_between yX3_between, .code yX3_between cX3_between 6 (some .int), .fieldLink RX3 11 "GreyReel$Studio" "ahead" "[I"] ++ wsX30)
def wsJ7_fill_53178 : List Cond := .code yJ7_fill_53178 cJ7_fill_53178 4 none :: ([])
def wsX3_foretellFlat : List Cond := .code yX3_foretellFlat cX3_foretellFlat 6 none :: ([.fieldLink RX3 18 "GreyReel$Studio" "made" "[I", .fieldLink RX3 21 "GreyReel$Studio" "foretold" "[I", .static yX5_isFirstOfBand, .initialized RX5, .code yX5_isFirstOfBand cX5_isFirstOfBand 1 (some .boolean), .static yX5_firstPointOf, .code yX5_firstPointOf cX5_firstPointOf 1 (some .int), .methodLink RX3 62 yJ7_fill_53178, .static yJ7_fill_53178, .initialized RJ7, .code yJ7_fill_53178 cJ7_fill_53178 4 none] ++ wsX30)
def wsX3_foretellLeft : List Cond := .code yX3_foretellLeft cX3_foretellLeft 4 none :: ([.fieldLink RX3 21 "GreyReel$Studio" "foretold" "[I", .fieldLink RX3 18 "GreyReel$Studio" "made" "[I", .static yX5_isFirstOfBand, .initialized RX5, .code yX5_isFirstOfBand cX5_isFirstOfBand 1 (some .boolean), .static yX5_firstPointOf, .code yX5_firstPointOf cX5_firstPointOf 1 (some .int)] ++ wsX30)
def wsX5_clip : List Cond := .code yX5_clip cX5_clip 1 (some .int) :: ([])
def wsX3_foretellTrend : List Cond := .code yX3_foretellTrend cX3_foretellTrend 6 none :: ([.fieldLink RX3 18 "GreyReel$Studio" "made" "[I", .fieldLink RX3 21 "GreyReel$Studio" "foretold" "[I", .static yX5_isFirstOfBand, .initialized RX5, .code yX5_isFirstOfBand cX5_isFirstOfBand 1 (some .boolean), .static yX5_firstPointOf, .code yX5_firstPointOf cX5_firstPointOf 1 (some .int), .static yX5_clip, .code yX5_clip cX5_clip 1 (some .int)] ++ wsX30)
def wsX3_foretell_r1 : List Cond := [Cond.methodLink RX3 28 yX3_foretellMoved, Cond.instanceMethod yX3_foretellMoved, Cond.selects RX3 yX3_foretellMoved yX3_foretellMoved, Cond.initialized RX3, Cond.code yX3_foretellMoved cX3_foretellMoved 9 none, Cond.fieldLink RX3 21 "GreyReel$Studio" "foretold" "[I", Cond.methodLink RX3 42 yX3_startAhead, Cond.instanceMethod yX3_startAhead, Cond.selects RX3 yX3_startAhead yX3_startAhead, Cond.code yX3_startAhead cX3_startAhead 8 (some .int), Cond.methodLink RX3 46 yX3_between, Cond.instanceMethod yX3_between, Cond.selects RX3 yX3_between yX3_between, Cond.code yX3_between cX3_between 6 (some .int), Cond.fieldLink RX3 11 "GreyReel$Studio" "ahead" "[I", Cond.methodLink RX3 32 yX3_foretellFlat, Cond.instanceMethod yX3_foretellFlat, Cond.selects RX3 yX3_foretellFlat yX3_foretellFlat, Cond.code yX3_foretellFlat cX3_foretellFlat 6 none, Cond.fieldLink RX3 18 "GreyReel$Studio" "made" "[I", Cond.static yX5_isFirstOfBand, Cond.initialized RX5, Cond.code yX5_isFirstOfBand cX5_isFirstOfBand 1 (some .boolean), Cond.static yX5_firstPointOf]
def wsX3_foretell_r2 : List Cond := [Cond.code yX5_firstPointOf cX5_firstPointOf 1 (some .int), Cond.methodLink RX3 62 yJ7_fill_53178, Cond.static yJ7_fill_53178, Cond.initialized RJ7, Cond.code yJ7_fill_53178 cJ7_fill_53178 4 none, Cond.methodLink RX3 36 yX3_foretellLeft, Cond.instanceMethod yX3_foretellLeft, Cond.selects RX3 yX3_foretellLeft yX3_foretellLeft, Cond.code yX3_foretellLeft cX3_foretellLeft 4 none, Cond.methodLink RX3 39 yX3_foretellTrend, Cond.instanceMethod yX3_foretellTrend, Cond.selects RX3 yX3_foretellTrend yX3_foretellTrend, Cond.code yX3_foretellTrend cX3_foretellTrend 6 none, Cond.static yX5_clip, Cond.code yX5_clip cX5_clip 1 (some .int)]
def wsX3_foretell : List Cond := .code yX3_foretell cX3_foretell 5 none :: ((wsX3_foretell_r1 ++ wsX3_foretell_r2) ++ wsX30)
def wsX3_difference : List Cond := .code yX3_difference cX3_difference 6 (some .int) :: ([.fieldLink RX3 21 "GreyReel$Studio" "foretold" "[I", .methodLink RX3 53 Lib.Math.abs.name, .static Lib.Math.abs.name, .initialized "java/lang/Math", .code Lib.Math.abs.name Lib.Math.abs.code 1 (some .int), .static yX5_firstPointOf, .initialized RX5, .code yX5_firstPointOf cX5_firstPointOf 1 (some .int)] ++ wsX30)
def wsX0_tryKind_r1 : List Cond := [Cond.fieldLink RX0 12 "GreyReel$Coder" "studio" "LGreyReel$Studio;", Cond.fieldLink RX0 28 "GreyReel$Coder" "bestPrice" "I", Cond.methodLink RX0 73 yX3_foretell, Cond.instanceMethod yX3_foretell, Cond.selects RX3 yX3_foretell yX3_foretell, Cond.initialized RX3, Cond.code yX3_foretell cX3_foretell 5 none, Cond.methodLink RX3 28 yX3_foretellMoved, Cond.instanceMethod yX3_foretellMoved, Cond.selects RX3 yX3_foretellMoved yX3_foretellMoved, Cond.code yX3_foretellMoved cX3_foretellMoved 9 none, Cond.fieldLink RX3 21 "GreyReel$Studio" "foretold" "[I", Cond.methodLink RX3 42 yX3_startAhead, Cond.instanceMethod yX3_startAhead, Cond.selects RX3 yX3_startAhead yX3_startAhead, Cond.code yX3_startAhead cX3_startAhead 8 (some .int), Cond.methodLink RX3 46 yX3_between, Cond.instanceMethod yX3_between, Cond.selects RX3 yX3_between yX3_between, Cond.code yX3_between cX3_between 6 (some .int), Cond.fieldLink RX3 11 "GreyReel$Studio" "ahead" "[I", Cond.methodLink RX3 32 yX3_foretellFlat, Cond.instanceMethod yX3_foretellFlat, Cond.selects RX3 yX3_foretellFlat yX3_foretellFlat]
def wsX0_tryKind_r2 : List Cond := [Cond.code yX3_foretellFlat cX3_foretellFlat 6 none, Cond.fieldLink RX3 18 "GreyReel$Studio" "made" "[I", Cond.static yX5_isFirstOfBand, Cond.initialized RX5, Cond.code yX5_isFirstOfBand cX5_isFirstOfBand 1 (some .boolean), Cond.static yX5_firstPointOf, Cond.code yX5_firstPointOf cX5_firstPointOf 1 (some .int), Cond.methodLink RX3 62 yJ7_fill_53178, Cond.static yJ7_fill_53178, Cond.initialized RJ7, Cond.code yJ7_fill_53178 cJ7_fill_53178 4 none, Cond.methodLink RX3 36 yX3_foretellLeft, Cond.instanceMethod yX3_foretellLeft, Cond.selects RX3 yX3_foretellLeft yX3_foretellLeft, Cond.code yX3_foretellLeft cX3_foretellLeft 4 none, Cond.methodLink RX3 39 yX3_foretellTrend, Cond.instanceMethod yX3_foretellTrend, Cond.selects RX3 yX3_foretellTrend yX3_foretellTrend, Cond.code yX3_foretellTrend cX3_foretellTrend 6 none, Cond.static yX5_clip, Cond.code yX5_clip cX5_clip 1 (some .int), Cond.methodLink RX0 127 yX3_difference, Cond.instanceMethod yX3_difference, Cond.selects RX3 yX3_difference yX3_difference]
def wsX0_tryKind_r3 : List Cond := [Cond.code yX3_difference cX3_difference 6 (some .int), Cond.methodLink RX3 53 Lib.Math.abs.name, Cond.static Lib.Math.abs.name, Cond.initialized "java/lang/Math", Cond.code Lib.Math.abs.name Lib.Math.abs.code 1 (some .int), Cond.methodLink RX0 124 yX0_take, Cond.instanceMethod yX0_take, Cond.selects RX0 yX0_take yX0_take, Cond.initialized RX0, Cond.code yX0_take cX0_take 5 none, Cond.fieldLink RX0 18 "GreyReel$Coder" "bestKind" "I", Cond.fieldLink RX0 22 "GreyReel$Coder" "bestX" "I", Cond.fieldLink RX0 25 "GreyReel$Coder" "bestY" "I"]
def wsX0_tryKind : List Cond := .code yX0_tryKind cX0_tryKind 6 none :: ((wsX0_tryKind_r1 ++ (wsX0_tryKind_r2 ++ wsX0_tryKind_r3)) ++ wsX00 ++ wsX30)
def wsX3_placeInBlock : List Cond := .code yX3_placeInBlock cX3_placeInBlock 4 (some .int) :: ([])
def wsX3_pointOf : List Cond := .code yX3_pointOf cX3_pointOf 2 (some .int) :: ([.static yX5_firstPointOf, .initialized RX5, .code yX5_firstPointOf cX5_firstPointOf 1 (some .int)])
def wsX3_turnFour : List Cond := .code yX3_turnFour cX3_turnFour 7 none :: ([.fieldLink RX3 15 "GreyReel$Studio" "quarterNumbers" "[I"] ++ wsX30)
def wsX3_turnQuarter : List Cond := .code yX3_turnQuarter cX3_turnQuarter 2 none :: ([.methodLink RX3 86 yX3_turnFour, .instanceMethod yX3_turnFour, .selects RX3 yX3_turnFour yX3_turnFour, .initialized RX3, .code yX3_turnFour cX3_turnFour 7 none, .fieldLink RX3 15 "GreyReel$Studio" "quarterNumbers" "[I"] ++ wsX30)
def wsX3_levelOf : List Cond := .code yX3_levelOf cX3_levelOf 4 (some .int) :: ([.methodLink RX3 53 Lib.Math.abs.name, .static Lib.Math.abs.name, .initialized "java/lang/Math", .code Lib.Math.abs.name Lib.Math.abs.code 1 (some .int)])
def wsX3_measure_r1 : List Cond := [Cond.fieldLink RX3 15 "GreyReel$Studio" "quarterNumbers" "[I", Cond.fieldLink RX3 21 "GreyReel$Studio" "foretold" "[I", Cond.fieldLink RX3 80 "GreyReel$Studio" "ORDER" "[I", Cond.methodLink RX3 71 yX3_placeInBlock, Cond.static yX3_placeInBlock, Cond.initialized RX3, Cond.code yX3_placeInBlock cX3_placeInBlock 4 (some .int), Cond.methodLink RX3 74 yX3_pointOf, Cond.static yX3_pointOf, Cond.code yX3_pointOf cX3_pointOf 2 (some .int), Cond.static yX5_firstPointOf, Cond.initialized RX5, Cond.code yX5_firstPointOf cX5_firstPointOf 1 (some .int), Cond.methodLink RX3 77 yX3_turnQuarter, Cond.instanceMethod yX3_turnQuarter, Cond.selects RX3 yX3_turnQuarter yX3_turnQuarter, Cond.code yX3_turnQuarter cX3_turnQuarter 2 none, Cond.methodLink RX3 86 yX3_turnFour, Cond.instanceMethod yX3_turnFour, Cond.selects RX3 yX3_turnFour yX3_turnFour, Cond.code yX3_turnFour cX3_turnFour 7 none, Cond.methodLink RX3 83 yX3_levelOf, Cond.static yX3_levelOf, Cond.code yX3_levelOf cX3_levelOf 4 (some .int)]
def wsX3_measure_r2 : List Cond := [Cond.methodLink RX3 53 Lib.Math.abs.name, Cond.static Lib.Math.abs.name, Cond.initialized "java/lang/Math", Cond.code Lib.Math.abs.name Lib.Math.abs.code 1 (some .int)]
def wsX3_measure : List Cond := .code yX3_measure cX3_measure 10 (some .boolean) :: ((wsX3_measure_r1 ++ wsX3_measure_r2) ++ wsX30)
def wsX3_makeBlock : List Cond := .code yX3_makeBlock cX3_makeBlock 8 none :: ([.fieldLink RX3 15 "GreyReel$Studio" "quarterNumbers" "[I", .fieldLink RX3 80 "GreyReel$Studio" "ORDER" "[I", .fieldLink RX3 18 "GreyReel$Studio" "made" "[I", .fieldLink RX3 21 "GreyReel$Studio" "foretold" "[I", .methodLink RX3 77 yX3_turnQuarter, .instanceMethod yX3_turnQuarter, .selects RX3 yX3_turnQuarter yX3_turnQuarter, .initialized RX3, .code yX3_turnQuarter cX3_turnQuarter 2 none, .methodLink RX3 86 yX3_turnFour, .instanceMethod yX3_turnFour, .selects RX3 yX3_turnFour yX3_turnFour, .code yX3_turnFour cX3_turnFour 7 none, .methodLink RX3 71 yX3_placeInBlock, .static yX3_placeInBlock, .code yX3_placeInBlock cX3_placeInBlock 4 (some .int), .methodLink RX3 74 yX3_pointOf, .static yX3_pointOf, .code yX3_pointOf cX3_pointOf 2 (some .int), .static yX5_firstPointOf, .initialized RX5, .code yX5_firstPointOf cX5_firstPointOf 1 (some .int), .static yX5_clip, .code yX5_clip cX5_clip 1 (some .int)] ++ wsX30)
def wsX0_codeBlock_r1 : List Cond := [Cond.fieldLink RX0 41 "GreyReel$Picture" "q" "I", Cond.constant RX0 58 (1048576), Cond.fieldLink RX0 28 "GreyReel$Coder" "bestPrice" "I", Cond.fieldLink RX0 59 "GreyReel$Picture" "isKeyPicture" "Z", Cond.fieldLink RX0 12 "GreyReel$Coder" "studio" "LGreyReel$Studio;", Cond.fieldLink RX0 18 "GreyReel$Coder" "bestKind" "I", Cond.fieldLink RX0 22 "GreyReel$Coder" "bestX" "I", Cond.fieldLink RX0 25 "GreyReel$Coder" "bestY" "I", Cond.fieldLink RX0 77 "GreyReel$Picture" "level" "[I", Cond.fieldLink RX0 91 "GreyReel$Picture" "kind" "[I", Cond.fieldLink RX0 94 "GreyReel$Picture" "vx" "[I", Cond.fieldLink RX0 97 "GreyReel$Picture" "vy" "[I", Cond.fieldLink RX0 100 "GreyReel$Picture" "price" "[I", Cond.methodLink RX0 62 yX0_seekVector, Cond.instanceMethod yX0_seekVector, Cond.selects RX0 yX0_seekVector yX0_seekVector, Cond.initialized RX0, Cond.code yX0_seekVector cX0_seekVector 8 none, Cond.methodLink RX0 107 yX0_tryVector, Cond.instanceMethod yX0_tryVector, Cond.selects RX0 yX0_tryVector yX0_tryVector, Cond.code yX0_tryVector cX0_tryVector 9 none, Cond.methodLink RX0 115 Lib.Math.abs.name, Cond.static Lib.Math.abs.name]
def wsX0_codeBlock_r2 : List Cond := [Cond.initialized "java/lang/Math", Cond.code Lib.Math.abs.name Lib.Math.abs.code 1 (some .int), Cond.methodLink RX0 84 yX2_expectedX, Cond.instanceMethod yX2_expectedX, Cond.selects RX2 yX2_expectedX yX2_expectedX, Cond.initialized RX2, Cond.code yX2_expectedX cX2_expectedX 2 (some .int), Cond.fieldLink RX2 15 "GreyReel$Picture" "vx" "[I", Cond.static yX5_isFirstOfBand, Cond.initialized RX5, Cond.code yX5_isFirstOfBand cX5_isFirstOfBand 1 (some .boolean), Cond.methodLink RX0 88 yX2_expectedY, Cond.instanceMethod yX2_expectedY, Cond.selects RX2 yX2_expectedY yX2_expectedY, Cond.code yX2_expectedY cX2_expectedY 2 (some .int), Cond.fieldLink RX2 18 "GreyReel$Picture" "vy" "[I", Cond.methodLink RX0 120 yX3_differenceMoved, Cond.instanceMethod yX3_differenceMoved, Cond.selects RX3 yX3_differenceMoved yX3_differenceMoved, Cond.initialized RX3, Cond.code yX3_differenceMoved cX3_differenceMoved 14 (some .int), Cond.methodLink RX3 53 Lib.Math.abs.name, Cond.methodLink RX3 42 yX3_startAhead, Cond.instanceMethod yX3_startAhead]
def wsX0_codeBlock_r3 : List Cond := [Cond.selects RX3 yX3_startAhead yX3_startAhead, Cond.code yX3_startAhead cX3_startAhead 8 (some .int), Cond.static yX5_firstPointOf, Cond.code yX5_firstPointOf cX5_firstPointOf 1 (some .int), Cond.methodLink RX3 46 yX3_between, Cond.instanceMethod yX3_between, Cond.selects RX3 yX3_between yX3_between, Cond.code yX3_between cX3_between 6 (some .int), Cond.fieldLink RX3 11 "GreyReel$Studio" "ahead" "[I", Cond.methodLink RX0 124 yX0_take, Cond.instanceMethod yX0_take, Cond.selects RX0 yX0_take yX0_take, Cond.code yX0_take cX0_take 5 none, Cond.static yX5_isWithin, Cond.code yX5_isWithin cX5_isWithin 3 (some .boolean), Cond.methodLink RX0 65 yX0_tryKind, Cond.instanceMethod yX0_tryKind, Cond.selects RX0 yX0_tryKind yX0_tryKind, Cond.code yX0_tryKind cX0_tryKind 6 none, Cond.methodLink RX0 73 yX3_foretell, Cond.instanceMethod yX3_foretell, Cond.selects RX3 yX3_foretell yX3_foretell, Cond.code yX3_foretell cX3_foretell 5 none, Cond.methodLink RX3 28 yX3_foretellMoved]
def wsX0_codeBlock_r4 : List Cond := [Cond.instanceMethod yX3_foretellMoved, Cond.selects RX3 yX3_foretellMoved yX3_foretellMoved, Cond.code yX3_foretellMoved cX3_foretellMoved 9 none, Cond.fieldLink RX3 21 "GreyReel$Studio" "foretold" "[I", Cond.methodLink RX3 32 yX3_foretellFlat, Cond.instanceMethod yX3_foretellFlat, Cond.selects RX3 yX3_foretellFlat yX3_foretellFlat, Cond.code yX3_foretellFlat cX3_foretellFlat 6 none, Cond.fieldLink RX3 18 "GreyReel$Studio" "made" "[I", Cond.methodLink RX3 62 yJ7_fill_53178, Cond.static yJ7_fill_53178, Cond.initialized RJ7, Cond.code yJ7_fill_53178 cJ7_fill_53178 4 none, Cond.methodLink RX3 36 yX3_foretellLeft, Cond.instanceMethod yX3_foretellLeft, Cond.selects RX3 yX3_foretellLeft yX3_foretellLeft, Cond.code yX3_foretellLeft cX3_foretellLeft 4 none, Cond.methodLink RX3 39 yX3_foretellTrend, Cond.instanceMethod yX3_foretellTrend, Cond.selects RX3 yX3_foretellTrend yX3_foretellTrend, Cond.code yX3_foretellTrend cX3_foretellTrend 6 none, Cond.static yX5_clip, Cond.code yX5_clip cX5_clip 1 (some .int), Cond.methodLink RX0 127 yX3_difference]
def wsX0_codeBlock_r5 : List Cond := [Cond.instanceMethod yX3_difference, Cond.selects RX3 yX3_difference yX3_difference, Cond.code yX3_difference cX3_difference 6 (some .int), Cond.methodLink RX0 80 yX3_measure, Cond.instanceMethod yX3_measure, Cond.selects RX3 yX3_measure yX3_measure, Cond.code yX3_measure cX3_measure 10 (some .boolean), Cond.fieldLink RX3 15 "GreyReel$Studio" "quarterNumbers" "[I", Cond.fieldLink RX3 80 "GreyReel$Studio" "ORDER" "[I", Cond.methodLink RX3 71 yX3_placeInBlock, Cond.static yX3_placeInBlock, Cond.code yX3_placeInBlock cX3_placeInBlock 4 (some .int), Cond.methodLink RX3 74 yX3_pointOf, Cond.static yX3_pointOf, Cond.code yX3_pointOf cX3_pointOf 2 (some .int), Cond.methodLink RX3 77 yX3_turnQuarter, Cond.instanceMethod yX3_turnQuarter, Cond.selects RX3 yX3_turnQuarter yX3_turnQuarter, Cond.code yX3_turnQuarter cX3_turnQuarter 2 none, Cond.methodLink RX3 86 yX3_turnFour, Cond.instanceMethod yX3_turnFour, Cond.selects RX3 yX3_turnFour yX3_turnFour, Cond.code yX3_turnFour cX3_turnFour 7 none, Cond.methodLink RX3 83 yX3_levelOf]
def wsX0_codeBlock_r6 : List Cond := [Cond.static yX3_levelOf, Cond.code yX3_levelOf cX3_levelOf 4 (some .int), Cond.methodLink RX0 103 yX3_makeBlock, Cond.instanceMethod yX3_makeBlock, Cond.selects RX3 yX3_makeBlock yX3_makeBlock, Cond.code yX3_makeBlock cX3_makeBlock 8 none]
def wsX0_codeBlock : List Cond := .code yX0_codeBlock cX0_codeBlock 7 none :: ((wsX0_codeBlock_r1 ++ (wsX0_codeBlock_r2 ++ (wsX0_codeBlock_r3 ++ (wsX0_codeBlock_r4 ++ (wsX0_codeBlock_r5 ++ wsX0_codeBlock_r6))))) ++ wsX20 ++ wsX00 ++ wsX30)
def wsX3_smoothAcross : List Cond := .code yX3_smoothAcross cX3_smoothAcross 10 none :: ([.fieldLink RX3 18 "GreyReel$Studio" "made" "[I", .methodLink RX3 53 Lib.Math.abs.name, .static Lib.Math.abs.name, .initialized "java/lang/Math", .code Lib.Math.abs.name Lib.Math.abs.code 1 (some .int)] ++ wsX30)
def wsX3_smooth : List Cond := .code yX3_smooth cX3_smooth 4 none :: ([.methodLink RX3 90 yX3_smoothAcross, .instanceMethod yX3_smoothAcross, .selects RX3 yX3_smoothAcross yX3_smoothAcross, .initialized RX3, .code yX3_smoothAcross cX3_smoothAcross 10 none, .fieldLink RX3 18 "GreyReel$Studio" "made" "[I", .methodLink RX3 53 Lib.Math.abs.name, .static Lib.Math.abs.name, .initialized "java/lang/Math", .code Lib.Math.abs.name Lib.Math.abs.code 1 (some .int)] ++ wsX30)
def wsX0_codeAll_r1 : List Cond := [Cond.fieldLink RX0 35 "GreyReel$Picture" "isSmoothed" "Z", Cond.fieldLink RX0 12 "GreyReel$Coder" "studio" "LGreyReel$Studio;", Cond.fieldLink RX0 41 "GreyReel$Picture" "q" "I", Cond.fieldLink RX0 48 "GreyReel$Studio" "made" "[I", Cond.fieldLink RX0 52 "GreyReel$Picture" "result" "[I", Cond.fieldLink RX0 55 "GreyReel$Picture" "error" "I", Cond.methodLink RX0 31 yX0_codeBlock, Cond.instanceMethod yX0_codeBlock, Cond.selects RX0 yX0_codeBlock yX0_codeBlock, Cond.initialized RX0, Cond.code yX0_codeBlock cX0_codeBlock 7 none, Cond.constant RX0 58 (1048576), Cond.fieldLink RX0 28 "GreyReel$Coder" "bestPrice" "I", Cond.fieldLink RX0 59 "GreyReel$Picture" "isKeyPicture" "Z", Cond.fieldLink RX0 18 "GreyReel$Coder" "bestKind" "I", Cond.fieldLink RX0 22 "GreyReel$Coder" "bestX" "I", Cond.fieldLink RX0 25 "GreyReel$Coder" "bestY" "I", Cond.fieldLink RX0 77 "GreyReel$Picture" "level" "[I", Cond.fieldLink RX0 91 "GreyReel$Picture" "kind" "[I", Cond.fieldLink RX0 94 "GreyReel$Picture" "vx" "[I", Cond.fieldLink RX0 97 "GreyReel$Picture" "vy" "[I", Cond.fieldLink RX0 100 "GreyReel$Picture" "price" "[I", Cond.methodLink RX0 62 yX0_seekVector, Cond.instanceMethod yX0_seekVector]
def wsX0_codeAll_r2 : List Cond := [Cond.selects RX0 yX0_seekVector yX0_seekVector, Cond.code yX0_seekVector cX0_seekVector 8 none, Cond.methodLink RX0 107 yX0_tryVector, Cond.instanceMethod yX0_tryVector, Cond.selects RX0 yX0_tryVector yX0_tryVector, Cond.code yX0_tryVector cX0_tryVector 9 none, Cond.methodLink RX0 115 Lib.Math.abs.name, Cond.static Lib.Math.abs.name, Cond.initialized "java/lang/Math", Cond.code Lib.Math.abs.name Lib.Math.abs.code 1 (some .int), Cond.methodLink RX0 84 yX2_expectedX, Cond.instanceMethod yX2_expectedX, Cond.selects RX2 yX2_expectedX yX2_expectedX, Cond.initialized RX2, Cond.code yX2_expectedX cX2_expectedX 2 (some .int), Cond.fieldLink RX2 15 "GreyReel$Picture" "vx" "[I", Cond.static yX5_isFirstOfBand, Cond.initialized RX5, Cond.code yX5_isFirstOfBand cX5_isFirstOfBand 1 (some .boolean), Cond.methodLink RX0 88 yX2_expectedY, Cond.instanceMethod yX2_expectedY, Cond.selects RX2 yX2_expectedY yX2_expectedY, Cond.code yX2_expectedY cX2_expectedY 2 (some .int), Cond.fieldLink RX2 18 "GreyReel$Picture" "vy" "[I"]
def wsX0_codeAll_r3 : List Cond := [Cond.methodLink RX0 120 yX3_differenceMoved, Cond.instanceMethod yX3_differenceMoved, Cond.selects RX3 yX3_differenceMoved yX3_differenceMoved, Cond.initialized RX3, Cond.code yX3_differenceMoved cX3_differenceMoved 14 (some .int), Cond.methodLink RX3 53 Lib.Math.abs.name, Cond.methodLink RX3 42 yX3_startAhead, Cond.instanceMethod yX3_startAhead, Cond.selects RX3 yX3_startAhead yX3_startAhead, Cond.code yX3_startAhead cX3_startAhead 8 (some .int), Cond.static yX5_firstPointOf, Cond.code yX5_firstPointOf cX5_firstPointOf 1 (some .int), Cond.methodLink RX3 46 yX3_between, Cond.instanceMethod yX3_between, Cond.selects RX3 yX3_between yX3_between, Cond.code yX3_between cX3_between 6 (some .int), Cond.fieldLink RX3 11 "GreyReel$Studio" "ahead" "[I", Cond.methodLink RX0 124 yX0_take, Cond.instanceMethod yX0_take, Cond.selects RX0 yX0_take yX0_take, Cond.code yX0_take cX0_take 5 none, Cond.static yX5_isWithin, Cond.code yX5_isWithin cX5_isWithin 3 (some .boolean), Cond.methodLink RX0 65 yX0_tryKind]
def wsX0_codeAll_r4 : List Cond := [Cond.instanceMethod yX0_tryKind, Cond.selects RX0 yX0_tryKind yX0_tryKind, Cond.code yX0_tryKind cX0_tryKind 6 none, Cond.methodLink RX0 73 yX3_foretell, Cond.instanceMethod yX3_foretell, Cond.selects RX3 yX3_foretell yX3_foretell, Cond.code yX3_foretell cX3_foretell 5 none, Cond.methodLink RX3 28 yX3_foretellMoved, Cond.instanceMethod yX3_foretellMoved, Cond.selects RX3 yX3_foretellMoved yX3_foretellMoved, Cond.code yX3_foretellMoved cX3_foretellMoved 9 none, Cond.fieldLink RX3 21 "GreyReel$Studio" "foretold" "[I", Cond.methodLink RX3 32 yX3_foretellFlat, Cond.instanceMethod yX3_foretellFlat, Cond.selects RX3 yX3_foretellFlat yX3_foretellFlat, Cond.code yX3_foretellFlat cX3_foretellFlat 6 none, Cond.fieldLink RX3 18 "GreyReel$Studio" "made" "[I", Cond.methodLink RX3 62 yJ7_fill_53178, Cond.static yJ7_fill_53178, Cond.initialized RJ7, Cond.code yJ7_fill_53178 cJ7_fill_53178 4 none, Cond.methodLink RX3 36 yX3_foretellLeft, Cond.instanceMethod yX3_foretellLeft, Cond.selects RX3 yX3_foretellLeft yX3_foretellLeft]
def wsX0_codeAll_r5 : List Cond := [Cond.code yX3_foretellLeft cX3_foretellLeft 4 none, Cond.methodLink RX3 39 yX3_foretellTrend, Cond.instanceMethod yX3_foretellTrend, Cond.selects RX3 yX3_foretellTrend yX3_foretellTrend, Cond.code yX3_foretellTrend cX3_foretellTrend 6 none, Cond.static yX5_clip, Cond.code yX5_clip cX5_clip 1 (some .int), Cond.methodLink RX0 127 yX3_difference, Cond.instanceMethod yX3_difference, Cond.selects RX3 yX3_difference yX3_difference, Cond.code yX3_difference cX3_difference 6 (some .int), Cond.methodLink RX0 80 yX3_measure, Cond.instanceMethod yX3_measure, Cond.selects RX3 yX3_measure yX3_measure, Cond.code yX3_measure cX3_measure 10 (some .boolean), Cond.fieldLink RX3 15 "GreyReel$Studio" "quarterNumbers" "[I", Cond.fieldLink RX3 80 "GreyReel$Studio" "ORDER" "[I", Cond.methodLink RX3 71 yX3_placeInBlock, Cond.static yX3_placeInBlock, Cond.code yX3_placeInBlock cX3_placeInBlock 4 (some .int), Cond.methodLink RX3 74 yX3_pointOf, Cond.static yX3_pointOf, Cond.code yX3_pointOf cX3_pointOf 2 (some .int), Cond.methodLink RX3 77 yX3_turnQuarter]
def wsX0_codeAll_r6 : List Cond := [Cond.instanceMethod yX3_turnQuarter, Cond.selects RX3 yX3_turnQuarter yX3_turnQuarter, Cond.code yX3_turnQuarter cX3_turnQuarter 2 none, Cond.methodLink RX3 86 yX3_turnFour, Cond.instanceMethod yX3_turnFour, Cond.selects RX3 yX3_turnFour yX3_turnFour, Cond.code yX3_turnFour cX3_turnFour 7 none, Cond.methodLink RX3 83 yX3_levelOf, Cond.static yX3_levelOf, Cond.code yX3_levelOf cX3_levelOf 4 (some .int), Cond.methodLink RX0 103 yX3_makeBlock, Cond.instanceMethod yX3_makeBlock, Cond.selects RX3 yX3_makeBlock yX3_makeBlock, Cond.code yX3_makeBlock cX3_makeBlock 8 none, Cond.methodLink RX0 44 yX3_smooth, Cond.instanceMethod yX3_smooth, Cond.selects RX3 yX3_smooth yX3_smooth, Cond.code yX3_smooth cX3_smooth 4 none, Cond.methodLink RX3 90 yX3_smoothAcross, Cond.instanceMethod yX3_smoothAcross, Cond.selects RX3 yX3_smoothAcross yX3_smoothAcross, Cond.code yX3_smoothAcross cX3_smoothAcross 10 none]
def wsX0_codeAll : List Cond := .code yX0_codeAll cX0_codeAll 6 none :: ((wsX0_codeAll_r1 ++ (wsX0_codeAll_r2 ++ (wsX0_codeAll_r3 ++ (wsX0_codeAll_r4 ++ (wsX0_codeAll_r5 ++ wsX0_codeAll_r6))))) ++ wsX20 ++ wsX00 ++ wsX30)
def wsX1_init : List Cond := .code yX1_init cX1_init 1 none :: ([.methodLink RX1 3 objectInit, .instanceMethod objectInit, .code objectInit ⟨#[0xb1]⟩ 1 none, .arrayClass .int, .fieldLink RX1 11 "GreyReel$PacketWriter" "row" "[I", .fieldLink RX1 15 "GreyReel$PacketWriter" "kindRow" "[I", .fieldLink RX1 18 "GreyReel$PacketWriter" "mean" "[I", .fieldLink RX1 21 "GreyReel$PacketWriter" "bitsWritten" "I"] ++ wsX10)
def wsX5_onRow : List Cond := .code yX5_onRow cX5_onRow 2 (some .int) :: ([.methodLink RX5 92 Lib.Math.min.name, .static Lib.Math.min.name, .initialized "java/lang/Math", .code Lib.Math.min.name Lib.Math.min.code 2 (some .int), .methodLink RX5 86 Lib.Math.max.name, .static Lib.Math.max.name, .code Lib.Math.max.name Lib.Math.max.code 2 (some .int)])
def wsJ7_copyOf_59c91 : List Cond := .code yJ7_copyOf_59c91 cJ7_copyOf_59c91 3 (some (.array .int)) :: ([.methodLink RJ7 316 ⟨"[I", "clone", "()Ljava/lang/Object;"⟩, .sameMethod "[I" "java/lang/Object" "clone" "()Ljava/lang/Object;", .native ⟨"java/lang/Object", "clone", "()Ljava/lang/Object;"⟩, .instanceMethod ⟨"java/lang/Object", "clone", "()Ljava/lang/Object;"⟩, .selects "[I" ⟨"[I", "clone", "()Ljava/lang/Object;"⟩ ⟨"java/lang/Object", "clone", "()Ljava/lang/Object;"⟩, .classLink RJ7 317 "[I", .arrayClass .int, .methodLink RJ7 304 Lib.Math.min.name, .static Lib.Math.min.name, .initialized "java/lang/Math", .code Lib.Math.min.name Lib.Math.min.code 2 (some .int), .methodLink RJ7 150 arraycopyName, .native arraycopyName, .static arraycopyName, .initialized "java/lang/System"])
def wsX1_copyOfBytes_r1 : List Cond := [Cond.fieldLink RX1 11 "GreyReel$PacketWriter" "row" "[I", Cond.static yX5_onRow, Cond.initialized RX5, Cond.code yX5_onRow cX5_onRow 2 (some .int), Cond.methodLink RX5 92 Lib.Math.min.name, Cond.static Lib.Math.min.name, Cond.initialized "java/lang/Math", Cond.code Lib.Math.min.name Lib.Math.min.code 2 (some .int), Cond.methodLink RX5 86 Lib.Math.max.name, Cond.static Lib.Math.max.name, Cond.code Lib.Math.max.name Lib.Math.max.code 2 (some .int), Cond.methodLink RX1 29 yJ7_copyOf_59c91, Cond.static yJ7_copyOf_59c91, Cond.initialized RJ7, Cond.code yJ7_copyOf_59c91 cJ7_copyOf_59c91 3 (some (.array .int)), Cond.methodLink RJ7 316 ⟨"[I", "clone", "()Ljava/lang/Object;"⟩, Cond.sameMethod "[I" "java/lang/Object" "clone" "()Ljava/lang/Object;", Cond.native ⟨"java/lang/Object", "clone", "()Ljava/lang/Object;"⟩, Cond.instanceMethod ⟨"java/lang/Object", "clone", "()Ljava/lang/Object;"⟩, Cond.selects "[I" ⟨"[I", "clone", "()Ljava/lang/Object;"⟩ ⟨"java/lang/Object", "clone", "()Ljava/lang/Object;"⟩, Cond.classLink RJ7 317 "[I", Cond.arrayClass .int, Cond.methodLink RJ7 304 Lib.Math.min.name, Cond.methodLink RJ7 150 arraycopyName]
def wsX1_copyOfBytes_r2 : List Cond := [Cond.native arraycopyName, Cond.static arraycopyName, Cond.initialized "java/lang/System"]
def wsX1_copyOfBytes : List Cond := .code yX1_copyOfBytes cX1_copyOfBytes 2 (some (.array .int)) :: ((wsX1_copyOfBytes_r1 ++ wsX1_copyOfBytes_r2) ++ wsX10)
def wsX1_put : List Cond := .code yX1_put cX1_put 5 none :: ([.fieldLink RX1 21 "GreyReel$PacketWriter" "bitsWritten" "I", .fieldLink RX1 11 "GreyReel$PacketWriter" "row" "[I"] ++ wsX10)
def wsX1_startBand : List Cond := .code yX1_startBand cX1_startBand 3 none :: ([.fieldLink RX1 15 "GreyReel$PacketWriter" "kindRow" "[I", .fieldLink RX1 18 "GreyReel$PacketWriter" "mean" "[I", .fieldLink RX1 56 "GreyReel$Picture" "number" "I", .fieldLink RX1 63 "GreyReel$Picture" "isKeyPicture" "Z", .fieldLink RX1 67 "GreyReel$Picture" "q" "I", .fieldLink RX1 70 "GreyReel$Picture" "isSmoothed" "Z", .methodLink RX1 35 yJ7_fill_53178, .static yJ7_fill_53178, .initialized RJ7, .code yJ7_fill_53178 cJ7_fill_53178 4 none, .methodLink RX1 59 yX1_put, .instanceMethod yX1_put, .selects RX1 yX1_put yX1_put, .initialized RX1, .code yX1_put cX1_put 5 none, .fieldLink RX1 21 "GreyReel$PacketWriter" "bitsWritten" "I", .fieldLink RX1 11 "GreyReel$PacketWriter" "row" "[I"] ++ wsX10 ++ wsX20)
def wsX1_putOnes : List Cond := .code yX1_putOnes cX1_putOnes 2 none :: ([.methodLink RX1 59 yX1_put, .instanceMethod yX1_put, .selects RX1 yX1_put yX1_put, .initialized RX1, .code yX1_put cX1_put 5 none, .fieldLink RX1 21 "GreyReel$PacketWriter" "bitsWritten" "I", .fieldLink RX1 11 "GreyReel$PacketWriter" "row" "[I"] ++ wsX10)
def wsX1_writeKind : List Cond := .code yX1_writeKind cX1_writeKind 4 none :: ([.fieldLink RX1 15 "GreyReel$PacketWriter" "kindRow" "[I", .methodLink RX1 101 yX1_putOnes, .instanceMethod yX1_putOnes, .selects RX1 yX1_putOnes yX1_putOnes, .initialized RX1, .code yX1_putOnes cX1_putOnes 2 none, .methodLink RX1 59 yX1_put, .instanceMethod yX1_put, .selects RX1 yX1_put yX1_put, .code yX1_put cX1_put 5 none, .fieldLink RX1 21 "GreyReel$PacketWriter" "bitsWritten" "I", .fieldLink RX1 11 "GreyReel$PacketWriter" "row" "[I"] ++ wsX10)
def wsX5_folded : List Cond := .code yX5_folded cX5_folded 1 (some .int) :: ([])
def wsX1_writeSigned : List Cond := .code yX1_writeSigned cX1_writeSigned 4 none :: ([.static yX5_folded, .initialized RX5, .code yX5_folded cX5_folded 1 (some .int), .methodLink RX1 59 yX1_put, .instanceMethod yX1_put, .selects RX1 yX1_put yX1_put, .initialized RX1, .code yX1_put cX1_put 5 none, .fieldLink RX1 21 "GreyReel$PacketWriter" "bitsWritten" "I", .fieldLink RX1 11 "GreyReel$PacketWriter" "row" "[I"] ++ wsX10)
def wsX1_writeNumber : List Cond := .code yX1_writeNumber cX1_writeNumber 4 none :: ([.fieldLink RX1 18 "GreyReel$PacketWriter" "mean" "[I", .methodLink RX1 59 yX1_put, .instanceMethod yX1_put, .selects RX1 yX1_put yX1_put, .initialized RX1, .code yX1_put cX1_put 5 none, .fieldLink RX1 21 "GreyReel$PacketWriter" "bitsWritten" "I", .fieldLink RX1 11 "GreyReel$PacketWriter" "row" "[I", .methodLink RX1 101 yX1_putOnes, .instanceMethod yX1_putOnes, .selects RX1 yX1_putOnes yX1_putOnes, .code yX1_putOnes cX1_putOnes 2 none] ++ wsX10)
def wsX1_writeLevels : List Cond := .code yX1_writeLevels cX1_writeLevels 6 none :: ([.methodLink RX1 107 yX1_writeNumber, .instanceMethod yX1_writeNumber, .selects RX1 yX1_writeNumber yX1_writeNumber, .initialized RX1, .code yX1_writeNumber cX1_writeNumber 4 none, .fieldLink RX1 18 "GreyReel$PacketWriter" "mean" "[I", .methodLink RX1 59 yX1_put, .instanceMethod yX1_put, .selects RX1 yX1_put yX1_put, .code yX1_put cX1_put 5 none, .fieldLink RX1 21 "GreyReel$PacketWriter" "bitsWritten" "I", .fieldLink RX1 11 "GreyReel$PacketWriter" "row" "[I", .methodLink RX1 101 yX1_putOnes, .instanceMethod yX1_putOnes, .selects RX1 yX1_putOnes yX1_putOnes, .code yX1_putOnes cX1_putOnes 2 none, .static yX5_folded, .initialized RX5, .code yX5_folded cX5_folded 1 (some .int)] ++ wsX10)
def wsX1_writeBlock_r1 : List Cond := [Cond.fieldLink RX1 73 "GreyReel$Picture" "kind" "[I", Cond.fieldLink RX1 80 "GreyReel$Picture" "vx" "[I", Cond.fieldLink RX1 89 "GreyReel$Picture" "vy" "[I", Cond.fieldLink RX1 95 "GreyReel$Picture" "level" "[I", Cond.methodLink RX1 76 yX1_writeKind, Cond.instanceMethod yX1_writeKind, Cond.selects RX1 yX1_writeKind yX1_writeKind, Cond.initialized RX1, Cond.code yX1_writeKind cX1_writeKind 4 none, Cond.fieldLink RX1 15 "GreyReel$PacketWriter" "kindRow" "[I", Cond.methodLink RX1 101 yX1_putOnes, Cond.instanceMethod yX1_putOnes, Cond.selects RX1 yX1_putOnes yX1_putOnes, Cond.code yX1_putOnes cX1_putOnes 2 none, Cond.methodLink RX1 59 yX1_put, Cond.instanceMethod yX1_put, Cond.selects RX1 yX1_put yX1_put, Cond.code yX1_put cX1_put 5 none, Cond.fieldLink RX1 21 "GreyReel$PacketWriter" "bitsWritten" "I", Cond.fieldLink RX1 11 "GreyReel$PacketWriter" "row" "[I", Cond.methodLink RX1 83 yX2_expectedX, Cond.instanceMethod yX2_expectedX, Cond.selects RX2 yX2_expectedX yX2_expectedX, Cond.initialized RX2]
def wsX1_writeBlock_r2 : List Cond := [Cond.code yX2_expectedX cX2_expectedX 2 (some .int), Cond.fieldLink RX2 15 "GreyReel$Picture" "vx" "[I", Cond.static yX5_isFirstOfBand, Cond.initialized RX5, Cond.code yX5_isFirstOfBand cX5_isFirstOfBand 1 (some .boolean), Cond.methodLink RX1 86 yX1_writeSigned, Cond.instanceMethod yX1_writeSigned, Cond.selects RX1 yX1_writeSigned yX1_writeSigned, Cond.code yX1_writeSigned cX1_writeSigned 4 none, Cond.static yX5_folded, Cond.code yX5_folded cX5_folded 1 (some .int), Cond.methodLink RX1 92 yX2_expectedY, Cond.instanceMethod yX2_expectedY, Cond.selects RX2 yX2_expectedY yX2_expectedY, Cond.code yX2_expectedY cX2_expectedY 2 (some .int), Cond.fieldLink RX2 18 "GreyReel$Picture" "vy" "[I", Cond.methodLink RX1 98 yX1_writeLevels, Cond.instanceMethod yX1_writeLevels, Cond.selects RX1 yX1_writeLevels yX1_writeLevels, Cond.code yX1_writeLevels cX1_writeLevels 6 none, Cond.methodLink RX1 107 yX1_writeNumber, Cond.instanceMethod yX1_writeNumber, Cond.selects RX1 yX1_writeNumber yX1_writeNumber, Cond.code yX1_writeNumber cX1_writeNumber 4 none]
def wsX1_writeBlock_r3 : List Cond := [Cond.fieldLink RX1 18 "GreyReel$PacketWriter" "mean" "[I"]
def wsX1_writeBlock : List Cond := .code yX1_writeBlock cX1_writeBlock 5 none :: ((wsX1_writeBlock_r1 ++ (wsX1_writeBlock_r2 ++ wsX1_writeBlock_r3)) ++ wsX20 ++ wsX10)
def wsX2_bytesIn : List Cond := .code yX2_bytesIn cX2_bytesIn 2 (some .int) :: ([.fieldLink RX2 30 "GreyReel$Picture" "usedBits" "[I"] ++ wsX20)
def wsX1_write_r1 : List Cond := [Cond.fieldLink RX1 11 "GreyReel$PacketWriter" "row" "[I", Cond.fieldLink RX1 21 "GreyReel$PacketWriter" "bitsWritten" "I", Cond.fieldLink RX1 47 "GreyReel$Picture" "usedBits" "[I", Cond.methodLink RX1 35 yJ7_fill_53178, Cond.static yJ7_fill_53178, Cond.initialized RJ7, Cond.code yJ7_fill_53178 cJ7_fill_53178 4 none, Cond.methodLink RX1 39 yX1_startBand, Cond.instanceMethod yX1_startBand, Cond.selects RX1 yX1_startBand yX1_startBand, Cond.initialized RX1, Cond.code yX1_startBand cX1_startBand 3 none, Cond.fieldLink RX1 15 "GreyReel$PacketWriter" "kindRow" "[I", Cond.fieldLink RX1 18 "GreyReel$PacketWriter" "mean" "[I", Cond.fieldLink RX1 56 "GreyReel$Picture" "number" "I", Cond.fieldLink RX1 63 "GreyReel$Picture" "isKeyPicture" "Z", Cond.fieldLink RX1 67 "GreyReel$Picture" "q" "I", Cond.fieldLink RX1 70 "GreyReel$Picture" "isSmoothed" "Z", Cond.methodLink RX1 59 yX1_put, Cond.instanceMethod yX1_put, Cond.selects RX1 yX1_put yX1_put, Cond.code yX1_put cX1_put 5 none, Cond.methodLink RX1 43 yX1_writeBlock, Cond.instanceMethod yX1_writeBlock]
def wsX1_write_r2 : List Cond := [Cond.selects RX1 yX1_writeBlock yX1_writeBlock, Cond.code yX1_writeBlock cX1_writeBlock 5 none, Cond.fieldLink RX1 73 "GreyReel$Picture" "kind" "[I", Cond.fieldLink RX1 80 "GreyReel$Picture" "vx" "[I", Cond.fieldLink RX1 89 "GreyReel$Picture" "vy" "[I", Cond.fieldLink RX1 95 "GreyReel$Picture" "level" "[I", Cond.methodLink RX1 76 yX1_writeKind, Cond.instanceMethod yX1_writeKind, Cond.selects RX1 yX1_writeKind yX1_writeKind, Cond.code yX1_writeKind cX1_writeKind 4 none, Cond.methodLink RX1 101 yX1_putOnes, Cond.instanceMethod yX1_putOnes, Cond.selects RX1 yX1_putOnes yX1_putOnes, Cond.code yX1_putOnes cX1_putOnes 2 none, Cond.methodLink RX1 83 yX2_expectedX, Cond.instanceMethod yX2_expectedX, Cond.selects RX2 yX2_expectedX yX2_expectedX, Cond.initialized RX2, Cond.code yX2_expectedX cX2_expectedX 2 (some .int), Cond.fieldLink RX2 15 "GreyReel$Picture" "vx" "[I", Cond.static yX5_isFirstOfBand, Cond.initialized RX5, Cond.code yX5_isFirstOfBand cX5_isFirstOfBand 1 (some .boolean), Cond.methodLink RX1 86 yX1_writeSigned]
def wsX1_write_r3 : List Cond := [Cond.instanceMethod yX1_writeSigned, Cond.selects RX1 yX1_writeSigned yX1_writeSigned, Cond.code yX1_writeSigned cX1_writeSigned 4 none, Cond.static yX5_folded, Cond.code yX5_folded cX5_folded 1 (some .int), Cond.methodLink RX1 92 yX2_expectedY, Cond.instanceMethod yX2_expectedY, Cond.selects RX2 yX2_expectedY yX2_expectedY, Cond.code yX2_expectedY cX2_expectedY 2 (some .int), Cond.fieldLink RX2 18 "GreyReel$Picture" "vy" "[I", Cond.methodLink RX1 98 yX1_writeLevels, Cond.instanceMethod yX1_writeLevels, Cond.selects RX1 yX1_writeLevels yX1_writeLevels, Cond.code yX1_writeLevels cX1_writeLevels 6 none, Cond.methodLink RX1 107 yX1_writeNumber, Cond.instanceMethod yX1_writeNumber, Cond.selects RX1 yX1_writeNumber yX1_writeNumber, Cond.code yX1_writeNumber cX1_writeNumber 4 none, Cond.methodLink RX1 52 yX2_bytesIn, Cond.instanceMethod yX2_bytesIn, Cond.selects RX2 yX2_bytesIn yX2_bytesIn, Cond.code yX2_bytesIn cX2_bytesIn 2 (some .int), Cond.fieldLink RX2 30 "GreyReel$Picture" "usedBits" "[I"]
def wsX1_write : List Cond := .code yX1_write cX1_write 5 none :: ((wsX1_write_r1 ++ (wsX1_write_r2 ++ wsX1_write_r3)) ++ wsX10 ++ wsX20)
def wsX2_init : List Cond := .code yX2_init cX2_init 1 none :: ([.methodLink RX2 3 objectInit, .instanceMethod objectInit, .code objectInit ⟨#[0xb1]⟩ 1 none, .arrayClass .int, .fieldLink RX2 9 "GreyReel$Picture" "kind" "[I", .fieldLink RX2 15 "GreyReel$Picture" "vx" "[I", .fieldLink RX2 18 "GreyReel$Picture" "vy" "[I", .fieldLink RX2 21 "GreyReel$Picture" "price" "[I", .fieldLink RX2 24 "GreyReel$Picture" "level" "[I", .fieldLink RX2 27 "GreyReel$Picture" "result" "[I", .fieldLink RX2 30 "GreyReel$Picture" "usedBits" "[I", .arrayClass .boolean, .fieldLink RX2 33 "GreyReel$Picture" "got" "[Z", .fieldLink RX2 37 "GreyReel$Picture" "row" "[I", .fieldLink RX2 40 "GreyReel$Picture" "number" "I", .fieldLink RX2 44 "GreyReel$Picture" "q" "I", .fieldLink RX2 47 "GreyReel$Picture" "error" "I", .fieldLink RX2 50 "GreyReel$Picture" "isKeyPicture" "Z", .fieldLink RX2 54 "GreyReel$Picture" "isSmoothed" "Z"] ++ wsX20)
def wsX2_firstByteOf : List Cond := .code yX2_firstByteOf cX2_firstByteOf 4 (some .int) :: ([.methodLink RX2 57 yX2_bytesIn, .instanceMethod yX2_bytesIn, .selects RX2 yX2_bytesIn yX2_bytesIn, .initialized RX2, .code yX2_bytesIn cX2_bytesIn 2 (some .int), .fieldLink RX2 30 "GreyReel$Picture" "usedBits" "[I"] ++ wsX20)
def wsX2_bytesInAll : List Cond := .code yX2_bytesInAll cX2_bytesInAll 1 (some .int) :: ([.methodLink RX2 61 yX2_firstByteOf, .instanceMethod yX2_firstByteOf, .selects RX2 yX2_firstByteOf yX2_firstByteOf, .initialized RX2, .code yX2_firstByteOf cX2_firstByteOf 4 (some .int), .methodLink RX2 57 yX2_bytesIn, .instanceMethod yX2_bytesIn, .selects RX2 yX2_bytesIn yX2_bytesIn, .code yX2_bytesIn cX2_bytesIn 2 (some .int), .fieldLink RX2 30 "GreyReel$Picture" "usedBits" "[I"] ++ wsX20)
def wsX2_levelsNotZero : List Cond := .code yX2_levelsNotZero cX2_levelsNotZero 4 (some .int) :: ([.fieldLink RX2 24 "GreyReel$Picture" "level" "[I"] ++ wsX20)
def wsX2_blocksOf : List Cond := .code yX2_blocksOf cX2_blocksOf 4 (some .int) :: ([.fieldLink RX2 9 "GreyReel$Picture" "kind" "[I"] ++ wsX20)
def wsX2_freshBlocks : List Cond := .code yX2_freshBlocks cX2_freshBlocks 1 (some .int) :: ([.methodLink RX2 64 yX2_blocksOf, .instanceMethod yX2_blocksOf, .selects RX2 yX2_blocksOf yX2_blocksOf, .initialized RX2, .code yX2_blocksOf cX2_blocksOf 4 (some .int), .fieldLink RX2 9 "GreyReel$Picture" "kind" "[I"] ++ wsX20)
def wsX2_bandsGot : List Cond := .code yX2_bandsGot cX2_bandsGot 3 (some .int) :: ([.fieldLink RX2 33 "GreyReel$Picture" "got" "[Z"] ++ wsX20)
def wsX2_digestPacket : List Cond := .code yX2_digestPacket cX2_digestPacket 8 (some .long) :: ([.constantLong RX2 71 (31), .fieldLink RX2 30 "GreyReel$Picture" "usedBits" "[I", .fieldLink RX2 33 "GreyReel$Picture" "got" "[Z", .fieldLink RX2 37 "GreyReel$Picture" "row" "[I", .methodLink RX2 57 yX2_bytesIn, .instanceMethod yX2_bytesIn, .selects RX2 yX2_bytesIn yX2_bytesIn, .initialized RX2, .code yX2_bytesIn cX2_bytesIn 2 (some .int), .methodLink RX2 61 yX2_firstByteOf, .instanceMethod yX2_firstByteOf, .selects RX2 yX2_firstByteOf yX2_firstByteOf, .code yX2_firstByteOf cX2_firstByteOf 4 (some .int)] ++ wsX20)
def wsX2_digestOn_r1 : List Cond := [Cond.constantLong RX2 71 (31), Cond.fieldLink RX2 50 "GreyReel$Picture" "isKeyPicture" "Z", Cond.fieldLink RX2 44 "GreyReel$Picture" "q" "I", Cond.fieldLink RX2 47 "GreyReel$Picture" "error" "I", Cond.fieldLink RX2 9 "GreyReel$Picture" "kind" "[I", Cond.fieldLink RX2 15 "GreyReel$Picture" "vx" "[I", Cond.fieldLink RX2 18 "GreyReel$Picture" "vy" "[I", Cond.methodLink RX2 73 yX2_levelsNotZero, Cond.instanceMethod yX2_levelsNotZero, Cond.selects RX2 yX2_levelsNotZero yX2_levelsNotZero, Cond.initialized RX2, Cond.code yX2_levelsNotZero cX2_levelsNotZero 4 (some .int), Cond.fieldLink RX2 24 "GreyReel$Picture" "level" "[I", Cond.methodLink RX2 76 yX2_digestPacket, Cond.instanceMethod yX2_digestPacket, Cond.selects RX2 yX2_digestPacket yX2_digestPacket, Cond.code yX2_digestPacket cX2_digestPacket 8 (some .long), Cond.fieldLink RX2 30 "GreyReel$Picture" "usedBits" "[I", Cond.fieldLink RX2 33 "GreyReel$Picture" "got" "[Z", Cond.fieldLink RX2 37 "GreyReel$Picture" "row" "[I", Cond.methodLink RX2 57 yX2_bytesIn, Cond.instanceMethod yX2_bytesIn, Cond.selects RX2 yX2_bytesIn yX2_bytesIn, Cond.code yX2_bytesIn cX2_bytesIn 2 (some .int)]
def wsX2_digestOn_r2 : List Cond := [Cond.methodLink RX2 61 yX2_firstByteOf, Cond.instanceMethod yX2_firstByteOf, Cond.selects RX2 yX2_firstByteOf yX2_firstByteOf, Cond.code yX2_firstByteOf cX2_firstByteOf 4 (some .int)]
def wsX2_digestOn : List Cond := .code yX2_digestOn cX2_digestOn 6 (some .long) :: ((wsX2_digestOn_r1 ++ wsX2_digestOn_r2) ++ wsX20)
def wsX3_lookAhead : List Cond := .code yX3_lookAhead cX3_lookAhead 5 none :: ([.fieldLink RX3 11 "GreyReel$Studio" "ahead" "[I", .static yX5_onRow, .initialized RX5, .code yX5_onRow cX5_onRow 2 (some .int), .methodLink RX5 92 Lib.Math.min.name, .static Lib.Math.min.name, .initialized "java/lang/Math", .code Lib.Math.min.name Lib.Math.min.code 2 (some .int), .methodLink RX5 86 Lib.Math.max.name, .static Lib.Math.max.name, .code Lib.Math.max.name Lib.Math.max.code 2 (some .int)] ++ wsX30)
def wsX3_makeForetold : List Cond := .code yX3_makeForetold cX3_makeForetold 3 none :: ([.fieldLink RX3 18 "GreyReel$Studio" "made" "[I", .fieldLink RX3 21 "GreyReel$Studio" "foretold" "[I", .methodLink RX3 74 yX3_pointOf, .static yX3_pointOf, .initialized RX3, .code yX3_pointOf cX3_pointOf 2 (some .int), .static yX5_firstPointOf, .initialized RX5, .code yX5_firstPointOf cX5_firstPointOf 1 (some .int)] ++ wsX30)
def wsX4_init : List Cond := .code yX4_init cX4_init 1 none :: ([.methodLink RX4 3 objectInit, .instanceMethod objectInit, .code objectInit ⟨#[0xb1]⟩ 1 none, .classLink RX4 9 RX3, .instantiable RX3 4, .initialized RX3, .fieldLink RX4 12 "GreyReel$Viewer" "studio" "LGreyReel$Studio;", .arrayClass .int, .fieldLink RX4 18 "GreyReel$Viewer" "screen" "[I", .fieldLink RX4 22 "GreyReel$Viewer" "shownPictures" "I", .instanceMethod yX3_init, .code yX3_init cX3_init 1 none, .methodLink RX3 5 objectInit, .fieldLink RX3 11 "GreyReel$Studio" "ahead" "[I", .fieldLink RX3 15 "GreyReel$Studio" "quarterNumbers" "[I", .fieldLink RX3 18 "GreyReel$Studio" "made" "[I", .fieldLink RX3 21 "GreyReel$Studio" "foretold" "[I", .methodLink RX4 26 yJ7_fill_53178, .static yJ7_fill_53178, .initialized RJ7, .code yJ7_fill_53178 cJ7_fill_53178 4 none] ++ wsX30 ++ wsX40)
def wsX4_conceal_r1 : List Cond := [Cond.fieldLink RX4 36 "GreyReel$Picture" "got" "[Z", Cond.fieldLink RX4 45 "GreyReel$Picture" "vx" "[I", Cond.fieldLink RX4 48 "GreyReel$Picture" "vy" "[I", Cond.fieldLink RX4 12 "GreyReel$Viewer" "studio" "LGreyReel$Studio;", Cond.methodLink RX4 51 yX3_foretell, Cond.instanceMethod yX3_foretell, Cond.selects RX3 yX3_foretell yX3_foretell, Cond.initialized RX3, Cond.code yX3_foretell cX3_foretell 5 none, Cond.methodLink RX3 28 yX3_foretellMoved, Cond.instanceMethod yX3_foretellMoved, Cond.selects RX3 yX3_foretellMoved yX3_foretellMoved, Cond.code yX3_foretellMoved cX3_foretellMoved 9 none, Cond.fieldLink RX3 21 "GreyReel$Studio" "foretold" "[I", Cond.methodLink RX3 42 yX3_startAhead, Cond.instanceMethod yX3_startAhead, Cond.selects RX3 yX3_startAhead yX3_startAhead, Cond.code yX3_startAhead cX3_startAhead 8 (some .int), Cond.methodLink RX3 46 yX3_between, Cond.instanceMethod yX3_between, Cond.selects RX3 yX3_between yX3_between, Cond.code yX3_between cX3_between 6 (some .int), Cond.fieldLink RX3 11 "GreyReel$Studio" "ahead" "[I", Cond.methodLink RX3 32 yX3_foretellFlat]
def wsX4_conceal_r2 : List Cond := [Cond.instanceMethod yX3_foretellFlat, Cond.selects RX3 yX3_foretellFlat yX3_foretellFlat, Cond.code yX3_foretellFlat cX3_foretellFlat 6 none, Cond.fieldLink RX3 18 "GreyReel$Studio" "made" "[I", Cond.static yX5_isFirstOfBand, Cond.initialized RX5, Cond.code yX5_isFirstOfBand cX5_isFirstOfBand 1 (some .boolean), Cond.static yX5_firstPointOf, Cond.code yX5_firstPointOf cX5_firstPointOf 1 (some .int), Cond.methodLink RX3 62 yJ7_fill_53178, Cond.static yJ7_fill_53178, Cond.initialized RJ7, Cond.code yJ7_fill_53178 cJ7_fill_53178 4 none, Cond.methodLink RX3 36 yX3_foretellLeft, Cond.instanceMethod yX3_foretellLeft, Cond.selects RX3 yX3_foretellLeft yX3_foretellLeft, Cond.code yX3_foretellLeft cX3_foretellLeft 4 none, Cond.methodLink RX3 39 yX3_foretellTrend, Cond.instanceMethod yX3_foretellTrend, Cond.selects RX3 yX3_foretellTrend yX3_foretellTrend, Cond.code yX3_foretellTrend cX3_foretellTrend 6 none, Cond.static yX5_clip, Cond.code yX5_clip cX5_clip 1 (some .int), Cond.methodLink RX4 81 yX3_makeForetold]
def wsX4_conceal_r3 : List Cond := [Cond.instanceMethod yX3_makeForetold, Cond.selects RX3 yX3_makeForetold yX3_makeForetold, Cond.code yX3_makeForetold cX3_makeForetold 3 none, Cond.methodLink RX3 74 yX3_pointOf, Cond.static yX3_pointOf, Cond.code yX3_pointOf cX3_pointOf 2 (some .int)]
def wsX4_conceal : List Cond := .code yX4_conceal cX4_conceal 7 none :: ((wsX4_conceal_r1 ++ (wsX4_conceal_r2 ++ wsX4_conceal_r3)) ++ wsX20 ++ wsX40 ++ wsX30)
def wsX4_make_r1 : List Cond := [Cond.fieldLink RX4 12 "GreyReel$Viewer" "studio" "LGreyReel$Studio;", Cond.fieldLink RX4 18 "GreyReel$Viewer" "screen" "[I", Cond.fieldLink RX4 36 "GreyReel$Picture" "got" "[Z", Cond.fieldLink RX4 42 "GreyReel$Picture" "kind" "[I", Cond.fieldLink RX4 45 "GreyReel$Picture" "vx" "[I", Cond.fieldLink RX4 48 "GreyReel$Picture" "vy" "[I", Cond.fieldLink RX4 55 "GreyReel$Picture" "q" "I", Cond.fieldLink RX4 58 "GreyReel$Picture" "level" "[I", Cond.fieldLink RX4 69 "GreyReel$Picture" "isSmoothed" "Z", Cond.methodLink RX4 32 yX3_lookAhead, Cond.instanceMethod yX3_lookAhead, Cond.selects RX3 yX3_lookAhead yX3_lookAhead, Cond.initialized RX3, Cond.code yX3_lookAhead cX3_lookAhead 5 none, Cond.fieldLink RX3 11 "GreyReel$Studio" "ahead" "[I", Cond.static yX5_onRow, Cond.initialized RX5, Cond.code yX5_onRow cX5_onRow 2 (some .int), Cond.methodLink RX5 92 Lib.Math.min.name, Cond.static Lib.Math.min.name, Cond.initialized "java/lang/Math", Cond.code Lib.Math.min.name Lib.Math.min.code 2 (some .int), Cond.methodLink RX5 86 Lib.Math.max.name, Cond.static Lib.Math.max.name]
def wsX4_make_r2 : List Cond := [Cond.code Lib.Math.max.name Lib.Math.max.code 2 (some .int), Cond.methodLink RX4 51 yX3_foretell, Cond.instanceMethod yX3_foretell, Cond.selects RX3 yX3_foretell yX3_foretell, Cond.code yX3_foretell cX3_foretell 5 none, Cond.methodLink RX3 28 yX3_foretellMoved, Cond.instanceMethod yX3_foretellMoved, Cond.selects RX3 yX3_foretellMoved yX3_foretellMoved, Cond.code yX3_foretellMoved cX3_foretellMoved 9 none, Cond.fieldLink RX3 21 "GreyReel$Studio" "foretold" "[I", Cond.methodLink RX3 42 yX3_startAhead, Cond.instanceMethod yX3_startAhead, Cond.selects RX3 yX3_startAhead yX3_startAhead, Cond.code yX3_startAhead cX3_startAhead 8 (some .int), Cond.methodLink RX3 46 yX3_between, Cond.instanceMethod yX3_between, Cond.selects RX3 yX3_between yX3_between, Cond.code yX3_between cX3_between 6 (some .int), Cond.methodLink RX3 32 yX3_foretellFlat, Cond.instanceMethod yX3_foretellFlat, Cond.selects RX3 yX3_foretellFlat yX3_foretellFlat, Cond.code yX3_foretellFlat cX3_foretellFlat 6 none, Cond.fieldLink RX3 18 "GreyReel$Studio" "made" "[I", Cond.static yX5_isFirstOfBand]
def wsX4_make_r3 : List Cond := [Cond.code yX5_isFirstOfBand cX5_isFirstOfBand 1 (some .boolean), Cond.static yX5_firstPointOf, Cond.code yX5_firstPointOf cX5_firstPointOf 1 (some .int), Cond.methodLink RX3 62 yJ7_fill_53178, Cond.static yJ7_fill_53178, Cond.initialized RJ7, Cond.code yJ7_fill_53178 cJ7_fill_53178 4 none, Cond.methodLink RX3 36 yX3_foretellLeft, Cond.instanceMethod yX3_foretellLeft, Cond.selects RX3 yX3_foretellLeft yX3_foretellLeft, Cond.code yX3_foretellLeft cX3_foretellLeft 4 none, Cond.methodLink RX3 39 yX3_foretellTrend, Cond.instanceMethod yX3_foretellTrend, Cond.selects RX3 yX3_foretellTrend yX3_foretellTrend, Cond.code yX3_foretellTrend cX3_foretellTrend 6 none, Cond.static yX5_clip, Cond.code yX5_clip cX5_clip 1 (some .int), Cond.methodLink RX4 61 yX3_makeBlock, Cond.instanceMethod yX3_makeBlock, Cond.selects RX3 yX3_makeBlock yX3_makeBlock, Cond.code yX3_makeBlock cX3_makeBlock 8 none, Cond.fieldLink RX3 15 "GreyReel$Studio" "quarterNumbers" "[I", Cond.fieldLink RX3 80 "GreyReel$Studio" "ORDER" "[I", Cond.methodLink RX3 77 yX3_turnQuarter]
def wsX4_make_r4 : List Cond := [Cond.instanceMethod yX3_turnQuarter, Cond.selects RX3 yX3_turnQuarter yX3_turnQuarter, Cond.code yX3_turnQuarter cX3_turnQuarter 2 none, Cond.methodLink RX3 86 yX3_turnFour, Cond.instanceMethod yX3_turnFour, Cond.selects RX3 yX3_turnFour yX3_turnFour, Cond.code yX3_turnFour cX3_turnFour 7 none, Cond.methodLink RX3 71 yX3_placeInBlock, Cond.static yX3_placeInBlock, Cond.code yX3_placeInBlock cX3_placeInBlock 4 (some .int), Cond.methodLink RX3 74 yX3_pointOf, Cond.static yX3_pointOf, Cond.code yX3_pointOf cX3_pointOf 2 (some .int), Cond.methodLink RX4 65 yX4_conceal, Cond.instanceMethod yX4_conceal, Cond.selects RX4 yX4_conceal yX4_conceal, Cond.initialized RX4, Cond.code yX4_conceal cX4_conceal 7 none, Cond.methodLink RX4 81 yX3_makeForetold, Cond.instanceMethod yX3_makeForetold, Cond.selects RX3 yX3_makeForetold yX3_makeForetold, Cond.code yX3_makeForetold cX3_makeForetold 3 none, Cond.methodLink RX4 73 yX2_bandsGot, Cond.instanceMethod yX2_bandsGot]
def wsX4_make_r5 : List Cond := [Cond.selects RX2 yX2_bandsGot yX2_bandsGot, Cond.initialized RX2, Cond.code yX2_bandsGot cX2_bandsGot 3 (some .int), Cond.fieldLink RX2 33 "GreyReel$Picture" "got" "[Z", Cond.methodLink RX4 77 yX3_smooth, Cond.instanceMethod yX3_smooth, Cond.selects RX3 yX3_smooth yX3_smooth, Cond.code yX3_smooth cX3_smooth 4 none, Cond.methodLink RX3 90 yX3_smoothAcross, Cond.instanceMethod yX3_smoothAcross, Cond.selects RX3 yX3_smoothAcross yX3_smoothAcross, Cond.code yX3_smoothAcross cX3_smoothAcross 10 none, Cond.methodLink RX3 53 Lib.Math.abs.name, Cond.static Lib.Math.abs.name, Cond.code Lib.Math.abs.name Lib.Math.abs.code 1 (some .int)]
def wsX4_make : List Cond := .code yX4_make cX4_make 3 none :: ((wsX4_make_r1 ++ (wsX4_make_r2 ++ (wsX4_make_r3 ++ (wsX4_make_r4 ++ wsX4_make_r5)))) ++ wsX40 ++ wsX20 ++ wsX30)
def wsX4_takeMade : List Cond := .code yX4_takeMade cX4_takeMade 1 none :: ([.fieldLink RX4 12 "GreyReel$Viewer" "studio" "LGreyReel$Studio;", .fieldLink RX4 84 "GreyReel$Studio" "made" "[I", .fieldLink RX4 18 "GreyReel$Viewer" "screen" "[I", .methodLink RX4 87 arraycopyName, .native arraycopyName, .static arraycopyName, .initialized "java/lang/System", .fieldLink RX4 22 "GreyReel$Viewer" "shownPictures" "I"] ++ wsX40 ++ wsX30)
def wsX5_init_r1 : List Cond := [Cond.methodLink RX5 3 objectInit, Cond.instanceMethod objectInit, Cond.code objectInit ⟨#[0xb1]⟩ 1 none, Cond.arrayClass .int, Cond.fieldLink RX5 9 "GreyReel" "canvas" "[I", Cond.classLink RX5 13 RX2, Cond.fieldLink RX5 15 "GreyReel" "reel" "[LGreyReel$Picture;", Cond.classLink RX5 19 RX0, Cond.instantiable RX0 5, Cond.initialized RX0, Cond.fieldLink RX5 22 "GreyReel" "coder" "LGreyReel$Coder;", Cond.classLink RX5 26 RX1, Cond.instantiable RX1 4, Cond.initialized RX1, Cond.fieldLink RX5 29 "GreyReel" "writer" "LGreyReel$PacketWriter;", Cond.classLink RX5 33 RX4, Cond.instantiable RX4 3, Cond.initialized RX4, Cond.fieldLink RX5 36 "GreyReel" "viewer" "LGreyReel$Viewer;", Cond.fieldLink RX5 40 "GreyReel" "canvasBefore" "[I", Cond.instantiable RX2 14, Cond.initialized RX2, Cond.fieldLink RX5 44 "GreyReel" "draft" "LGreyReel$Picture;", Cond.fieldLink RX5 48 "GreyReel" "coded" "I"]
def wsX5_init_r2 : List Cond := [Cond.fieldLink RX5 52 "GreyReel" "deltasBehindKey" "I", Cond.fieldLink RX5 55 "GreyReel" "nextStep" "I", Cond.fieldLink RX5 58 "GreyReel" "bytesWanted" "I", Cond.fieldLink RX5 61 "GreyReel" "keyInterval" "I", Cond.fieldLink RX5 64 "GreyReel" "isSmoothing" "Z", Cond.fieldLink RX5 68 "GreyReel" "isKeyAsked" "Z", Cond.instanceMethod yX0_init, Cond.code yX0_init cX0_init 1 none, Cond.methodLink RX0 3 objectInit, Cond.classLink RX0 9 RX3, Cond.instantiable RX3 4, Cond.initialized RX3, Cond.fieldLink RX0 12 "GreyReel$Coder" "studio" "LGreyReel$Studio;", Cond.fieldLink RX0 18 "GreyReel$Coder" "bestKind" "I", Cond.fieldLink RX0 22 "GreyReel$Coder" "bestX" "I", Cond.fieldLink RX0 25 "GreyReel$Coder" "bestY" "I", Cond.fieldLink RX0 28 "GreyReel$Coder" "bestPrice" "I", Cond.instanceMethod yX3_init, Cond.code yX3_init cX3_init 1 none, Cond.methodLink RX3 5 objectInit, Cond.fieldLink RX3 11 "GreyReel$Studio" "ahead" "[I", Cond.fieldLink RX3 15 "GreyReel$Studio" "quarterNumbers" "[I", Cond.fieldLink RX3 18 "GreyReel$Studio" "made" "[I", Cond.fieldLink RX3 21 "GreyReel$Studio" "foretold" "[I"]
def wsX5_init_r3 : List Cond := [Cond.instanceMethod yX1_init, Cond.code yX1_init cX1_init 1 none, Cond.methodLink RX1 3 objectInit, Cond.fieldLink RX1 11 "GreyReel$PacketWriter" "row" "[I", Cond.fieldLink RX1 15 "GreyReel$PacketWriter" "kindRow" "[I", Cond.fieldLink RX1 18 "GreyReel$PacketWriter" "mean" "[I", Cond.fieldLink RX1 21 "GreyReel$PacketWriter" "bitsWritten" "I", Cond.methodLink RX5 35 yX4_init, Cond.instanceMethod yX4_init, Cond.code yX4_init cX4_init 1 none, Cond.methodLink RX4 3 objectInit, Cond.classLink RX4 9 RX3, Cond.fieldLink RX4 12 "GreyReel$Viewer" "studio" "LGreyReel$Studio;", Cond.fieldLink RX4 18 "GreyReel$Viewer" "screen" "[I", Cond.fieldLink RX4 22 "GreyReel$Viewer" "shownPictures" "I", Cond.methodLink RX4 26 yJ7_fill_53178, Cond.static yJ7_fill_53178, Cond.initialized RJ7, Cond.code yJ7_fill_53178 cJ7_fill_53178 4 none, Cond.instanceMethod yX2_init, Cond.code yX2_init cX2_init 1 none, Cond.methodLink RX2 3 objectInit, Cond.fieldLink RX2 9 "GreyReel$Picture" "kind" "[I", Cond.fieldLink RX2 15 "GreyReel$Picture" "vx" "[I"]
def wsX5_init_r4 : List Cond := [Cond.fieldLink RX2 18 "GreyReel$Picture" "vy" "[I", Cond.fieldLink RX2 21 "GreyReel$Picture" "price" "[I", Cond.fieldLink RX2 24 "GreyReel$Picture" "level" "[I", Cond.fieldLink RX2 27 "GreyReel$Picture" "result" "[I", Cond.fieldLink RX2 30 "GreyReel$Picture" "usedBits" "[I", Cond.arrayClass .boolean, Cond.fieldLink RX2 33 "GreyReel$Picture" "got" "[Z", Cond.fieldLink RX2 37 "GreyReel$Picture" "row" "[I", Cond.fieldLink RX2 40 "GreyReel$Picture" "number" "I", Cond.fieldLink RX2 44 "GreyReel$Picture" "q" "I", Cond.fieldLink RX2 47 "GreyReel$Picture" "error" "I", Cond.fieldLink RX2 50 "GreyReel$Picture" "isKeyPicture" "Z", Cond.fieldLink RX2 54 "GreyReel$Picture" "isSmoothed" "Z"]
def wsX5_init : List Cond := .code yX5_init cX5_init 1 none :: ((wsX5_init_r1 ++ (wsX5_init_r2 ++ (wsX5_init_r3 ++ wsX5_init_r4))) ++ wsX50 ++ wsX00 ++ wsX10 ++ wsX40 ++ wsX20 ++ wsX30)
def wsX5_fill : List Cond := .code yX5_fill cX5_fill 4 (some .int) :: ([.classLink RX5 75 "java/lang/IllegalArgumentException", .initialized "java/lang/IllegalArgumentException", .fieldLink RX5 9 "GreyReel" "canvas" "[I", .methodLink RX5 71 yX5_isWithin, .static yX5_isWithin, .initialized RX5, .code yX5_isWithin cX5_isWithin 3 (some .boolean)] ++ wsX50 ++ (vx_atS RX5 79 "java/lang/IllegalArgumentException" ["java/lang/RuntimeException", "java/lang/Exception"]).filter goodWord)
def wsX5_box : List Cond := .code yX5_box cX5_box 9 (some .int) :: ([.classLink RX5 75 "java/lang/IllegalArgumentException", .initialized "java/lang/IllegalArgumentException", .methodLink RX5 86 Lib.Math.max.name, .static Lib.Math.max.name, .initialized "java/lang/Math", .code Lib.Math.max.name Lib.Math.max.code 2 (some .int), .methodLink RX5 92 Lib.Math.min.name, .static Lib.Math.min.name, .code Lib.Math.min.name Lib.Math.min.code 2 (some .int), .fieldLink RX5 9 "GreyReel" "canvas" "[I", .methodLink RX5 71 yX5_isWithin, .static yX5_isWithin, .initialized RX5, .code yX5_isWithin cX5_isWithin 3 (some .boolean)] ++ wsX50 ++ (vx_atS RX5 79 "java/lang/IllegalArgumentException" ["java/lang/RuntimeException", "java/lang/Exception"]).filter goodWord)
def wsX5_ramp : List Cond := .code yX5_ramp cX5_ramp 7 (some .int) :: ([.classLink RX5 75 "java/lang/IllegalArgumentException", .initialized "java/lang/IllegalArgumentException", .fieldLink RX5 9 "GreyReel" "canvas" "[I", .methodLink RX5 71 yX5_isWithin, .static yX5_isWithin, .initialized RX5, .code yX5_isWithin cX5_isWithin 3 (some .boolean), .methodLink RX5 99 yX5_clip, .static yX5_clip, .code yX5_clip cX5_clip 1 (some .int)] ++ wsX50 ++ (vx_atS RX5 79 "java/lang/IllegalArgumentException" ["java/lang/RuntimeException", "java/lang/Exception"]).filter goodWord)
def wsX5_noise : List Cond := .code yX5_noise cX5_noise 5 (some .int) :: ([.classLink RX5 75 "java/lang/IllegalArgumentException", .initialized "java/lang/IllegalArgumentException", .constant RX5 103 (65535), .constant RX5 108 (65536), .fieldLink RX5 9 "GreyReel" "canvas" "[I", .methodLink RX5 71 yX5_isWithin, .static yX5_isWithin, .initialized RX5, .code yX5_isWithin cX5_isWithin 3 (some .boolean), .methodLink RX5 99 yX5_clip, .static yX5_clip, .code yX5_clip cX5_clip 1 (some .int)] ++ wsX50 ++ (vx_atS RX5 79 "java/lang/IllegalArgumentException" ["java/lang/RuntimeException", "java/lang/Exception"]).filter goodWord)
def wsX5_shift : List Cond := .code yX5_shift cX5_shift 7 (some .int) :: ([.classLink RX5 75 "java/lang/IllegalArgumentException", .initialized "java/lang/IllegalArgumentException", .fieldLink RX5 9 "GreyReel" "canvas" "[I", .fieldLink RX5 40 "GreyReel" "canvasBefore" "[I", .methodLink RX5 111 arraycopyName, .native arraycopyName, .static arraycopyName, .initialized "java/lang/System", .methodLink RX5 71 yX5_isWithin, .static yX5_isWithin, .initialized RX5, .code yX5_isWithin cX5_isWithin 3 (some .boolean), .methodLink RX5 117 yX5_onRow, .static yX5_onRow, .code yX5_onRow cX5_onRow 2 (some .int), .methodLink RX5 92 Lib.Math.min.name, .static Lib.Math.min.name, .initialized "java/lang/Math", .code Lib.Math.min.name Lib.Math.min.code 2 (some .int), .methodLink RX5 86 Lib.Math.max.name, .static Lib.Math.max.name, .code Lib.Math.max.name Lib.Math.max.code 2 (some .int)] ++ wsX50 ++ (vx_atS RX5 79 "java/lang/IllegalArgumentException" ["java/lang/RuntimeException", "java/lang/Exception"]).filter goodWord)
def wsX5_setStep : List Cond := .code yX5_setStep cX5_setStep 3 (some .int) :: ([.classLink RX5 75 "java/lang/IllegalArgumentException", .initialized "java/lang/IllegalArgumentException", .fieldLink RX5 55 "GreyReel" "nextStep" "I", .methodLink RX5 71 yX5_isWithin, .static yX5_isWithin, .initialized RX5, .code yX5_isWithin cX5_isWithin 3 (some .boolean)] ++ wsX50 ++ (vx_atS RX5 79 "java/lang/IllegalArgumentException" ["java/lang/RuntimeException", "java/lang/Exception"]).filter goodWord)
def wsX5_setTarget : List Cond := .code yX5_setTarget cX5_setTarget 3 (some .int) :: ([.classLink RX5 75 "java/lang/IllegalArgumentException", .initialized "java/lang/IllegalArgumentException", .fieldLink RX5 58 "GreyReel" "bytesWanted" "I", .methodLink RX5 71 yX5_isWithin, .static yX5_isWithin, .initialized RX5, .code yX5_isWithin cX5_isWithin 3 (some .boolean)] ++ wsX50 ++ (vx_atS RX5 79 "java/lang/IllegalArgumentException" ["java/lang/RuntimeException", "java/lang/Exception"]).filter goodWord)
def wsX5_setSmoothing : List Cond := .code yX5_setSmoothing cX5_setSmoothing 3 (some .boolean) :: ([.fieldLink RX5 64 "GreyReel" "isSmoothing" "Z"] ++ wsX50)
def wsX5_isKeyDue : List Cond := .code yX5_isKeyDue cX5_isKeyDue 1 (some .boolean) :: ([.fieldLink RX5 48 "GreyReel" "coded" "I", .fieldLink RX5 68 "GreyReel" "isKeyAsked" "Z", .fieldLink RX5 52 "GreyReel" "deltasBehindKey" "I", .fieldLink RX5 61 "GreyReel" "keyInterval" "I"] ++ wsX50)
def wsX5_askKey : List Cond := .code yX5_askKey cX5_askKey 2 (some .boolean) :: ([.fieldLink RX5 68 "GreyReel" "isKeyAsked" "Z", .methodLink RX5 129 yX5_isKeyDue, .instanceMethod yX5_isKeyDue, .selects RX5 yX5_isKeyDue yX5_isKeyDue, .initialized RX5, .code yX5_isKeyDue cX5_isKeyDue 1 (some .boolean), .fieldLink RX5 48 "GreyReel" "coded" "I", .fieldLink RX5 52 "GreyReel" "deltasBehindKey" "I", .fieldLink RX5 61 "GreyReel" "keyInterval" "I"] ++ wsX50)
def wsX5_refuseIfFull : List Cond := .code yX5_refuseIfFull cX5_refuseIfFull 1 none :: ([.classLink RX5 214 "java/lang/IllegalStateException", .initialized "java/lang/IllegalStateException", .fieldLink RX5 48 "GreyReel" "coded" "I"] ++ wsX50 ++ (vx_atS RX5 218 "java/lang/IllegalStateException" ["java/lang/RuntimeException", "java/lang/Exception"]).filter goodWord)
def wsX5_pictureOrNull : List Cond := .code yX5_pictureOrNull cX5_pictureOrNull 2 (some (.object "GreyReel$Picture")) :: ([.fieldLink RX5 48 "GreyReel" "coded" "I", .fieldLink RX5 15 "GreyReel" "reel" "[LGreyReel$Picture;"] ++ wsX50)
def wsX5_draftNext_r1 : List Cond := [Cond.fieldLink RX5 48 "GreyReel" "coded" "I", Cond.fieldLink RX5 22 "GreyReel" "coder" "LGreyReel$Coder;", Cond.fieldLink RX5 281 "GreyReel$Coder" "studio" "LGreyReel$Studio;", Cond.fieldLink RX5 186 "GreyReel$Picture" "result" "[I", Cond.fieldLink RX5 44 "GreyReel" "draft" "LGreyReel$Picture;", Cond.fieldLink RX5 286 "GreyReel$Picture" "number" "I", Cond.fieldLink RX5 165 "GreyReel$Picture" "q" "I", Cond.fieldLink RX5 64 "GreyReel" "isSmoothing" "Z", Cond.fieldLink RX5 289 "GreyReel$Picture" "isSmoothed" "Z", Cond.fieldLink RX5 155 "GreyReel$Picture" "isKeyPicture" "Z", Cond.fieldLink RX5 9 "GreyReel" "canvas" "[I", Cond.methodLink RX5 211 yX5_pictureOrNull, Cond.instanceMethod yX5_pictureOrNull, Cond.selects RX5 yX5_pictureOrNull yX5_pictureOrNull, Cond.initialized RX5, Cond.code yX5_pictureOrNull cX5_pictureOrNull 2 (some (.object "GreyReel$Picture")), Cond.fieldLink RX5 15 "GreyReel" "reel" "[LGreyReel$Picture;", Cond.methodLink RX5 282 yX3_lookAhead, Cond.instanceMethod yX3_lookAhead, Cond.selects RX3 yX3_lookAhead yX3_lookAhead, Cond.initialized RX3, Cond.code yX3_lookAhead cX3_lookAhead 5 none, Cond.fieldLink RX3 11 "GreyReel$Studio" "ahead" "[I", Cond.static yX5_onRow]
def wsX5_draftNext_r2 : List Cond := [Cond.code yX5_onRow cX5_onRow 2 (some .int), Cond.methodLink RX5 92 Lib.Math.min.name, Cond.static Lib.Math.min.name, Cond.initialized "java/lang/Math", Cond.code Lib.Math.min.name Lib.Math.min.code 2 (some .int), Cond.methodLink RX5 86 Lib.Math.max.name, Cond.static Lib.Math.max.name, Cond.code Lib.Math.max.name Lib.Math.max.code 2 (some .int), Cond.methodLink RX5 129 yX5_isKeyDue, Cond.instanceMethod yX5_isKeyDue, Cond.selects RX5 yX5_isKeyDue yX5_isKeyDue, Cond.code yX5_isKeyDue cX5_isKeyDue 1 (some .boolean), Cond.fieldLink RX5 68 "GreyReel" "isKeyAsked" "Z", Cond.fieldLink RX5 52 "GreyReel" "deltasBehindKey" "I", Cond.fieldLink RX5 61 "GreyReel" "keyInterval" "I", Cond.methodLink RX5 292 yX0_codeAll, Cond.instanceMethod yX0_codeAll, Cond.selects RX0 yX0_codeAll yX0_codeAll, Cond.initialized RX0, Cond.code yX0_codeAll cX0_codeAll 6 none, Cond.fieldLink RX0 35 "GreyReel$Picture" "isSmoothed" "Z", Cond.fieldLink RX0 12 "GreyReel$Coder" "studio" "LGreyReel$Studio;", Cond.fieldLink RX0 41 "GreyReel$Picture" "q" "I", Cond.fieldLink RX0 48 "GreyReel$Studio" "made" "[I"]
def wsX5_draftNext_r3 : List Cond := [Cond.fieldLink RX0 52 "GreyReel$Picture" "result" "[I", Cond.fieldLink RX0 55 "GreyReel$Picture" "error" "I", Cond.methodLink RX0 31 yX0_codeBlock, Cond.instanceMethod yX0_codeBlock, Cond.selects RX0 yX0_codeBlock yX0_codeBlock, Cond.code yX0_codeBlock cX0_codeBlock 7 none, Cond.constant RX0 58 (1048576), Cond.fieldLink RX0 28 "GreyReel$Coder" "bestPrice" "I", Cond.fieldLink RX0 59 "GreyReel$Picture" "isKeyPicture" "Z", Cond.fieldLink RX0 18 "GreyReel$Coder" "bestKind" "I", Cond.fieldLink RX0 22 "GreyReel$Coder" "bestX" "I", Cond.fieldLink RX0 25 "GreyReel$Coder" "bestY" "I", Cond.fieldLink RX0 77 "GreyReel$Picture" "level" "[I", Cond.fieldLink RX0 91 "GreyReel$Picture" "kind" "[I", Cond.fieldLink RX0 94 "GreyReel$Picture" "vx" "[I", Cond.fieldLink RX0 97 "GreyReel$Picture" "vy" "[I", Cond.fieldLink RX0 100 "GreyReel$Picture" "price" "[I", Cond.methodLink RX0 62 yX0_seekVector, Cond.instanceMethod yX0_seekVector, Cond.selects RX0 yX0_seekVector yX0_seekVector, Cond.code yX0_seekVector cX0_seekVector 8 none, Cond.methodLink RX0 107 yX0_tryVector, Cond.instanceMethod yX0_tryVector, Cond.selects RX0 yX0_tryVector yX0_tryVector]
def wsX5_draftNext_r4 : List Cond := [Cond.code yX0_tryVector cX0_tryVector 9 none, Cond.methodLink RX0 115 Lib.Math.abs.name, Cond.static Lib.Math.abs.name, Cond.code Lib.Math.abs.name Lib.Math.abs.code 1 (some .int), Cond.methodLink RX0 84 yX2_expectedX, Cond.instanceMethod yX2_expectedX, Cond.selects RX2 yX2_expectedX yX2_expectedX, Cond.initialized RX2, Cond.code yX2_expectedX cX2_expectedX 2 (some .int), Cond.fieldLink RX2 15 "GreyReel$Picture" "vx" "[I", Cond.static yX5_isFirstOfBand, Cond.code yX5_isFirstOfBand cX5_isFirstOfBand 1 (some .boolean), Cond.methodLink RX0 88 yX2_expectedY, Cond.instanceMethod yX2_expectedY, Cond.selects RX2 yX2_expectedY yX2_expectedY, Cond.code yX2_expectedY cX2_expectedY 2 (some .int), Cond.fieldLink RX2 18 "GreyReel$Picture" "vy" "[I", Cond.methodLink RX0 120 yX3_differenceMoved, Cond.instanceMethod yX3_differenceMoved, Cond.selects RX3 yX3_differenceMoved yX3_differenceMoved, Cond.code yX3_differenceMoved cX3_differenceMoved 14 (some .int), Cond.methodLink RX3 53 Lib.Math.abs.name, Cond.methodLink RX3 42 yX3_startAhead, Cond.instanceMethod yX3_startAhead]
def wsX5_draftNext_r5 : List Cond := [Cond.selects RX3 yX3_startAhead yX3_startAhead, Cond.code yX3_startAhead cX3_startAhead 8 (some .int), Cond.static yX5_firstPointOf, Cond.code yX5_firstPointOf cX5_firstPointOf 1 (some .int), Cond.methodLink RX3 46 yX3_between, Cond.instanceMethod yX3_between, Cond.selects RX3 yX3_between yX3_between, Cond.code yX3_between cX3_between 6 (some .int), Cond.methodLink RX0 124 yX0_take, Cond.instanceMethod yX0_take, Cond.selects RX0 yX0_take yX0_take, Cond.code yX0_take cX0_take 5 none, Cond.static yX5_isWithin, Cond.code yX5_isWithin cX5_isWithin 3 (some .boolean), Cond.methodLink RX0 65 yX0_tryKind, Cond.instanceMethod yX0_tryKind, Cond.selects RX0 yX0_tryKind yX0_tryKind, Cond.code yX0_tryKind cX0_tryKind 6 none, Cond.methodLink RX0 73 yX3_foretell, Cond.instanceMethod yX3_foretell, Cond.selects RX3 yX3_foretell yX3_foretell, Cond.code yX3_foretell cX3_foretell 5 none, Cond.methodLink RX3 28 yX3_foretellMoved, Cond.instanceMethod yX3_foretellMoved]
def wsX5_draftNext_r6 : List Cond := [Cond.selects RX3 yX3_foretellMoved yX3_foretellMoved, Cond.code yX3_foretellMoved cX3_foretellMoved 9 none, Cond.fieldLink RX3 21 "GreyReel$Studio" "foretold" "[I", Cond.methodLink RX3 32 yX3_foretellFlat, Cond.instanceMethod yX3_foretellFlat, Cond.selects RX3 yX3_foretellFlat yX3_foretellFlat, Cond.code yX3_foretellFlat cX3_foretellFlat 6 none, Cond.fieldLink RX3 18 "GreyReel$Studio" "made" "[I", Cond.methodLink RX3 62 yJ7_fill_53178, Cond.static yJ7_fill_53178, Cond.initialized RJ7, Cond.code yJ7_fill_53178 cJ7_fill_53178 4 none, Cond.methodLink RX3 36 yX3_foretellLeft, Cond.instanceMethod yX3_foretellLeft, Cond.selects RX3 yX3_foretellLeft yX3_foretellLeft, Cond.code yX3_foretellLeft cX3_foretellLeft 4 none, Cond.methodLink RX3 39 yX3_foretellTrend, Cond.instanceMethod yX3_foretellTrend, Cond.selects RX3 yX3_foretellTrend yX3_foretellTrend, Cond.code yX3_foretellTrend cX3_foretellTrend 6 none, Cond.static yX5_clip, Cond.code yX5_clip cX5_clip 1 (some .int), Cond.methodLink RX0 127 yX3_difference, Cond.instanceMethod yX3_difference]
def wsX5_draftNext_r7 : List Cond := [Cond.selects RX3 yX3_difference yX3_difference, Cond.code yX3_difference cX3_difference 6 (some .int), Cond.methodLink RX0 80 yX3_measure, Cond.instanceMethod yX3_measure, Cond.selects RX3 yX3_measure yX3_measure, Cond.code yX3_measure cX3_measure 10 (some .boolean), Cond.fieldLink RX3 15 "GreyReel$Studio" "quarterNumbers" "[I", Cond.fieldLink RX3 80 "GreyReel$Studio" "ORDER" "[I", Cond.methodLink RX3 71 yX3_placeInBlock, Cond.static yX3_placeInBlock, Cond.code yX3_placeInBlock cX3_placeInBlock 4 (some .int), Cond.methodLink RX3 74 yX3_pointOf, Cond.static yX3_pointOf, Cond.code yX3_pointOf cX3_pointOf 2 (some .int), Cond.methodLink RX3 77 yX3_turnQuarter, Cond.instanceMethod yX3_turnQuarter, Cond.selects RX3 yX3_turnQuarter yX3_turnQuarter, Cond.code yX3_turnQuarter cX3_turnQuarter 2 none, Cond.methodLink RX3 86 yX3_turnFour, Cond.instanceMethod yX3_turnFour, Cond.selects RX3 yX3_turnFour yX3_turnFour, Cond.code yX3_turnFour cX3_turnFour 7 none, Cond.methodLink RX3 83 yX3_levelOf, Cond.static yX3_levelOf]
def wsX5_draftNext_r8 : List Cond := [Cond.code yX3_levelOf cX3_levelOf 4 (some .int), Cond.methodLink RX0 103 yX3_makeBlock, Cond.instanceMethod yX3_makeBlock, Cond.selects RX3 yX3_makeBlock yX3_makeBlock, Cond.code yX3_makeBlock cX3_makeBlock 8 none, Cond.methodLink RX0 44 yX3_smooth, Cond.instanceMethod yX3_smooth, Cond.selects RX3 yX3_smooth yX3_smooth, Cond.code yX3_smooth cX3_smooth 4 none, Cond.methodLink RX3 90 yX3_smoothAcross, Cond.instanceMethod yX3_smoothAcross, Cond.selects RX3 yX3_smoothAcross yX3_smoothAcross, Cond.code yX3_smoothAcross cX3_smoothAcross 10 none, Cond.methodLink RX5 296 yX2_freshBlocks, Cond.instanceMethod yX2_freshBlocks, Cond.selects RX2 yX2_freshBlocks yX2_freshBlocks, Cond.code yX2_freshBlocks cX2_freshBlocks 1 (some .int), Cond.methodLink RX2 64 yX2_blocksOf, Cond.instanceMethod yX2_blocksOf, Cond.selects RX2 yX2_blocksOf yX2_blocksOf, Cond.code yX2_blocksOf cX2_blocksOf 4 (some .int), Cond.fieldLink RX2 9 "GreyReel$Picture" "kind" "[I"]
def wsX5_draftNext : List Cond := .code yX5_draftNext cX5_draftNext 3 none :: ((wsX5_draftNext_r1 ++ (wsX5_draftNext_r2 ++ (wsX5_draftNext_r3 ++ (wsX5_draftNext_r4 ++ (wsX5_draftNext_r5 ++ (wsX5_draftNext_r6 ++ (wsX5_draftNext_r7 ++ wsX5_draftNext_r8))))))) ++ wsX50 ++ wsX00 ++ wsX20 ++ wsX30)
def wsX5_steer : List Cond := .code yX5_steer cX5_steer 4 none :: ([.fieldLink RX5 58 "GreyReel" "bytesWanted" "I", .fieldLink RX5 155 "GreyReel$Picture" "isKeyPicture" "Z", .fieldLink RX5 55 "GreyReel" "nextStep" "I", .methodLink RX5 92 Lib.Math.min.name, .static Lib.Math.min.name, .initialized "java/lang/Math", .code Lib.Math.min.name Lib.Math.min.code 2 (some .int), .methodLink RX5 86 Lib.Math.max.name, .static Lib.Math.max.name, .code Lib.Math.max.name Lib.Math.max.code 2 (some .int), .methodLink RX5 144 yX2_bytesInAll, .instanceMethod yX2_bytesInAll, .selects RX2 yX2_bytesInAll yX2_bytesInAll, .initialized RX2, .code yX2_bytesInAll cX2_bytesInAll 1 (some .int), .methodLink RX2 61 yX2_firstByteOf, .instanceMethod yX2_firstByteOf, .selects RX2 yX2_firstByteOf yX2_firstByteOf, .code yX2_firstByteOf cX2_firstByteOf 4 (some .int), .methodLink RX2 57 yX2_bytesIn, .instanceMethod yX2_bytesIn, .selects RX2 yX2_bytesIn yX2_bytesIn, .code yX2_bytesIn cX2_bytesIn 2 (some .int), .fieldLink RX2 30 "GreyReel$Picture" "usedBits" "[I"] ++ wsX50 ++ wsX20)
def wsX5_code_r1 : List Cond := [Cond.fieldLink RX5 55 "GreyReel" "nextStep" "I", Cond.fieldLink RX5 29 "GreyReel" "writer" "LGreyReel$PacketWriter;", Cond.fieldLink RX5 44 "GreyReel" "draft" "LGreyReel$Picture;", Cond.fieldLink RX5 152 "GreyReel$Picture" "row" "[I", Cond.fieldLink RX5 15 "GreyReel" "reel" "[LGreyReel$Picture;", Cond.fieldLink RX5 48 "GreyReel" "coded" "I", Cond.classLink RX5 13 RX2, Cond.instantiable RX2 14, Cond.initialized RX2, Cond.fieldLink RX5 155 "GreyReel$Picture" "isKeyPicture" "Z", Cond.fieldLink RX5 52 "GreyReel" "deltasBehindKey" "I", Cond.fieldLink RX5 68 "GreyReel" "isKeyAsked" "Z", Cond.methodLink RX5 133 yX5_refuseIfFull, Cond.instanceMethod yX5_refuseIfFull, Cond.selects RX5 yX5_refuseIfFull yX5_refuseIfFull, Cond.initialized RX5, Cond.code yX5_refuseIfFull cX5_refuseIfFull 1 none, Cond.classLink RX5 214 "java/lang/IllegalStateException", Cond.initialized "java/lang/IllegalStateException", Cond.methodLink RX5 136 yX5_draftNext, Cond.instanceMethod yX5_draftNext, Cond.selects RX5 yX5_draftNext yX5_draftNext, Cond.code yX5_draftNext cX5_draftNext 3 none, Cond.fieldLink RX5 22 "GreyReel" "coder" "LGreyReel$Coder;"]
def wsX5_code_r2 : List Cond := [Cond.fieldLink RX5 281 "GreyReel$Coder" "studio" "LGreyReel$Studio;", Cond.fieldLink RX5 186 "GreyReel$Picture" "result" "[I", Cond.fieldLink RX5 286 "GreyReel$Picture" "number" "I", Cond.fieldLink RX5 165 "GreyReel$Picture" "q" "I", Cond.fieldLink RX5 64 "GreyReel" "isSmoothing" "Z", Cond.fieldLink RX5 289 "GreyReel$Picture" "isSmoothed" "Z", Cond.fieldLink RX5 9 "GreyReel" "canvas" "[I", Cond.methodLink RX5 211 yX5_pictureOrNull, Cond.instanceMethod yX5_pictureOrNull, Cond.selects RX5 yX5_pictureOrNull yX5_pictureOrNull, Cond.code yX5_pictureOrNull cX5_pictureOrNull 2 (some (.object "GreyReel$Picture")), Cond.methodLink RX5 282 yX3_lookAhead, Cond.instanceMethod yX3_lookAhead, Cond.selects RX3 yX3_lookAhead yX3_lookAhead, Cond.initialized RX3, Cond.code yX3_lookAhead cX3_lookAhead 5 none, Cond.fieldLink RX3 11 "GreyReel$Studio" "ahead" "[I", Cond.static yX5_onRow, Cond.code yX5_onRow cX5_onRow 2 (some .int), Cond.methodLink RX5 92 Lib.Math.min.name, Cond.static Lib.Math.min.name, Cond.initialized "java/lang/Math", Cond.code Lib.Math.min.name Lib.Math.min.code 2 (some .int), Cond.methodLink RX5 86 Lib.Math.max.name]
def wsX5_code_r3 : List Cond := [Cond.static Lib.Math.max.name, Cond.code Lib.Math.max.name Lib.Math.max.code 2 (some .int), Cond.methodLink RX5 129 yX5_isKeyDue, Cond.instanceMethod yX5_isKeyDue, Cond.selects RX5 yX5_isKeyDue yX5_isKeyDue, Cond.code yX5_isKeyDue cX5_isKeyDue 1 (some .boolean), Cond.fieldLink RX5 61 "GreyReel" "keyInterval" "I", Cond.methodLink RX5 292 yX0_codeAll, Cond.instanceMethod yX0_codeAll, Cond.selects RX0 yX0_codeAll yX0_codeAll, Cond.initialized RX0, Cond.code yX0_codeAll cX0_codeAll 6 none, Cond.fieldLink RX0 35 "GreyReel$Picture" "isSmoothed" "Z", Cond.fieldLink RX0 12 "GreyReel$Coder" "studio" "LGreyReel$Studio;", Cond.fieldLink RX0 41 "GreyReel$Picture" "q" "I", Cond.fieldLink RX0 48 "GreyReel$Studio" "made" "[I", Cond.fieldLink RX0 52 "GreyReel$Picture" "result" "[I", Cond.fieldLink RX0 55 "GreyReel$Picture" "error" "I", Cond.methodLink RX0 31 yX0_codeBlock, Cond.instanceMethod yX0_codeBlock, Cond.selects RX0 yX0_codeBlock yX0_codeBlock, Cond.code yX0_codeBlock cX0_codeBlock 7 none, Cond.constant RX0 58 (1048576), Cond.fieldLink RX0 28 "GreyReel$Coder" "bestPrice" "I"]
def wsX5_code_r4 : List Cond := [Cond.fieldLink RX0 59 "GreyReel$Picture" "isKeyPicture" "Z", Cond.fieldLink RX0 18 "GreyReel$Coder" "bestKind" "I", Cond.fieldLink RX0 22 "GreyReel$Coder" "bestX" "I", Cond.fieldLink RX0 25 "GreyReel$Coder" "bestY" "I", Cond.fieldLink RX0 77 "GreyReel$Picture" "level" "[I", Cond.fieldLink RX0 91 "GreyReel$Picture" "kind" "[I", Cond.fieldLink RX0 94 "GreyReel$Picture" "vx" "[I", Cond.fieldLink RX0 97 "GreyReel$Picture" "vy" "[I", Cond.fieldLink RX0 100 "GreyReel$Picture" "price" "[I", Cond.methodLink RX0 62 yX0_seekVector, Cond.instanceMethod yX0_seekVector, Cond.selects RX0 yX0_seekVector yX0_seekVector, Cond.code yX0_seekVector cX0_seekVector 8 none, Cond.methodLink RX0 107 yX0_tryVector, Cond.instanceMethod yX0_tryVector, Cond.selects RX0 yX0_tryVector yX0_tryVector, Cond.code yX0_tryVector cX0_tryVector 9 none, Cond.methodLink RX0 115 Lib.Math.abs.name, Cond.static Lib.Math.abs.name, Cond.code Lib.Math.abs.name Lib.Math.abs.code 1 (some .int), Cond.methodLink RX0 84 yX2_expectedX, Cond.instanceMethod yX2_expectedX, Cond.selects RX2 yX2_expectedX yX2_expectedX, Cond.code yX2_expectedX cX2_expectedX 2 (some .int)]
def wsX5_code_r5 : List Cond := [Cond.fieldLink RX2 15 "GreyReel$Picture" "vx" "[I", Cond.static yX5_isFirstOfBand, Cond.code yX5_isFirstOfBand cX5_isFirstOfBand 1 (some .boolean), Cond.methodLink RX0 88 yX2_expectedY, Cond.instanceMethod yX2_expectedY, Cond.selects RX2 yX2_expectedY yX2_expectedY, Cond.code yX2_expectedY cX2_expectedY 2 (some .int), Cond.fieldLink RX2 18 "GreyReel$Picture" "vy" "[I", Cond.methodLink RX0 120 yX3_differenceMoved, Cond.instanceMethod yX3_differenceMoved, Cond.selects RX3 yX3_differenceMoved yX3_differenceMoved, Cond.code yX3_differenceMoved cX3_differenceMoved 14 (some .int), Cond.methodLink RX3 53 Lib.Math.abs.name, Cond.methodLink RX3 42 yX3_startAhead, Cond.instanceMethod yX3_startAhead, Cond.selects RX3 yX3_startAhead yX3_startAhead, Cond.code yX3_startAhead cX3_startAhead 8 (some .int), Cond.static yX5_firstPointOf, Cond.code yX5_firstPointOf cX5_firstPointOf 1 (some .int), Cond.methodLink RX3 46 yX3_between, Cond.instanceMethod yX3_between, Cond.selects RX3 yX3_between yX3_between, Cond.code yX3_between cX3_between 6 (some .int), Cond.methodLink RX0 124 yX0_take]
def wsX5_code_r6 : List Cond := [Cond.instanceMethod yX0_take, Cond.selects RX0 yX0_take yX0_take, Cond.code yX0_take cX0_take 5 none, Cond.static yX5_isWithin, Cond.code yX5_isWithin cX5_isWithin 3 (some .boolean), Cond.methodLink RX0 65 yX0_tryKind, Cond.instanceMethod yX0_tryKind, Cond.selects RX0 yX0_tryKind yX0_tryKind, Cond.code yX0_tryKind cX0_tryKind 6 none, Cond.methodLink RX0 73 yX3_foretell, Cond.instanceMethod yX3_foretell, Cond.selects RX3 yX3_foretell yX3_foretell, Cond.code yX3_foretell cX3_foretell 5 none, Cond.methodLink RX3 28 yX3_foretellMoved, Cond.instanceMethod yX3_foretellMoved, Cond.selects RX3 yX3_foretellMoved yX3_foretellMoved, Cond.code yX3_foretellMoved cX3_foretellMoved 9 none, Cond.fieldLink RX3 21 "GreyReel$Studio" "foretold" "[I", Cond.methodLink RX3 32 yX3_foretellFlat, Cond.instanceMethod yX3_foretellFlat, Cond.selects RX3 yX3_foretellFlat yX3_foretellFlat, Cond.code yX3_foretellFlat cX3_foretellFlat 6 none, Cond.fieldLink RX3 18 "GreyReel$Studio" "made" "[I", Cond.methodLink RX3 62 yJ7_fill_53178]
def wsX5_code_r7 : List Cond := [Cond.static yJ7_fill_53178, Cond.initialized RJ7, Cond.code yJ7_fill_53178 cJ7_fill_53178 4 none, Cond.methodLink RX3 36 yX3_foretellLeft, Cond.instanceMethod yX3_foretellLeft, Cond.selects RX3 yX3_foretellLeft yX3_foretellLeft, Cond.code yX3_foretellLeft cX3_foretellLeft 4 none, Cond.methodLink RX3 39 yX3_foretellTrend, Cond.instanceMethod yX3_foretellTrend, Cond.selects RX3 yX3_foretellTrend yX3_foretellTrend, Cond.code yX3_foretellTrend cX3_foretellTrend 6 none, Cond.static yX5_clip, Cond.code yX5_clip cX5_clip 1 (some .int), Cond.methodLink RX0 127 yX3_difference, Cond.instanceMethod yX3_difference, Cond.selects RX3 yX3_difference yX3_difference, Cond.code yX3_difference cX3_difference 6 (some .int), Cond.methodLink RX0 80 yX3_measure, Cond.instanceMethod yX3_measure, Cond.selects RX3 yX3_measure yX3_measure, Cond.code yX3_measure cX3_measure 10 (some .boolean), Cond.fieldLink RX3 15 "GreyReel$Studio" "quarterNumbers" "[I", Cond.fieldLink RX3 80 "GreyReel$Studio" "ORDER" "[I", Cond.methodLink RX3 71 yX3_placeInBlock]
def wsX5_code_r8 : List Cond := [Cond.static yX3_placeInBlock, Cond.code yX3_placeInBlock cX3_placeInBlock 4 (some .int), Cond.methodLink RX3 74 yX3_pointOf, Cond.static yX3_pointOf, Cond.code yX3_pointOf cX3_pointOf 2 (some .int), Cond.methodLink RX3 77 yX3_turnQuarter, Cond.instanceMethod yX3_turnQuarter, Cond.selects RX3 yX3_turnQuarter yX3_turnQuarter, Cond.code yX3_turnQuarter cX3_turnQuarter 2 none, Cond.methodLink RX3 86 yX3_turnFour, Cond.instanceMethod yX3_turnFour, Cond.selects RX3 yX3_turnFour yX3_turnFour, Cond.code yX3_turnFour cX3_turnFour 7 none, Cond.methodLink RX3 83 yX3_levelOf, Cond.static yX3_levelOf, Cond.code yX3_levelOf cX3_levelOf 4 (some .int), Cond.methodLink RX0 103 yX3_makeBlock, Cond.instanceMethod yX3_makeBlock, Cond.selects RX3 yX3_makeBlock yX3_makeBlock, Cond.code yX3_makeBlock cX3_makeBlock 8 none, Cond.methodLink RX0 44 yX3_smooth, Cond.instanceMethod yX3_smooth, Cond.selects RX3 yX3_smooth yX3_smooth, Cond.code yX3_smooth cX3_smooth 4 none]
def wsX5_code_r9 : List Cond := [Cond.methodLink RX3 90 yX3_smoothAcross, Cond.instanceMethod yX3_smoothAcross, Cond.selects RX3 yX3_smoothAcross yX3_smoothAcross, Cond.code yX3_smoothAcross cX3_smoothAcross 10 none, Cond.methodLink RX5 296 yX2_freshBlocks, Cond.instanceMethod yX2_freshBlocks, Cond.selects RX2 yX2_freshBlocks yX2_freshBlocks, Cond.code yX2_freshBlocks cX2_freshBlocks 1 (some .int), Cond.methodLink RX2 64 yX2_blocksOf, Cond.instanceMethod yX2_blocksOf, Cond.selects RX2 yX2_blocksOf yX2_blocksOf, Cond.code yX2_blocksOf cX2_blocksOf 4 (some .int), Cond.fieldLink RX2 9 "GreyReel$Picture" "kind" "[I", Cond.methodLink RX5 140 yX1_write, Cond.instanceMethod yX1_write, Cond.selects RX1 yX1_write yX1_write, Cond.initialized RX1, Cond.code yX1_write cX1_write 5 none, Cond.fieldLink RX1 11 "GreyReel$PacketWriter" "row" "[I", Cond.fieldLink RX1 21 "GreyReel$PacketWriter" "bitsWritten" "I", Cond.fieldLink RX1 47 "GreyReel$Picture" "usedBits" "[I", Cond.methodLink RX1 35 yJ7_fill_53178, Cond.methodLink RX1 39 yX1_startBand, Cond.instanceMethod yX1_startBand]
def wsX5_code_r10 : List Cond := [Cond.selects RX1 yX1_startBand yX1_startBand, Cond.code yX1_startBand cX1_startBand 3 none, Cond.fieldLink RX1 15 "GreyReel$PacketWriter" "kindRow" "[I", Cond.fieldLink RX1 18 "GreyReel$PacketWriter" "mean" "[I", Cond.fieldLink RX1 56 "GreyReel$Picture" "number" "I", Cond.fieldLink RX1 63 "GreyReel$Picture" "isKeyPicture" "Z", Cond.fieldLink RX1 67 "GreyReel$Picture" "q" "I", Cond.fieldLink RX1 70 "GreyReel$Picture" "isSmoothed" "Z", Cond.methodLink RX1 59 yX1_put, Cond.instanceMethod yX1_put, Cond.selects RX1 yX1_put yX1_put, Cond.code yX1_put cX1_put 5 none, Cond.methodLink RX1 43 yX1_writeBlock, Cond.instanceMethod yX1_writeBlock, Cond.selects RX1 yX1_writeBlock yX1_writeBlock, Cond.code yX1_writeBlock cX1_writeBlock 5 none, Cond.fieldLink RX1 73 "GreyReel$Picture" "kind" "[I", Cond.fieldLink RX1 80 "GreyReel$Picture" "vx" "[I", Cond.fieldLink RX1 89 "GreyReel$Picture" "vy" "[I", Cond.fieldLink RX1 95 "GreyReel$Picture" "level" "[I", Cond.methodLink RX1 76 yX1_writeKind, Cond.instanceMethod yX1_writeKind, Cond.selects RX1 yX1_writeKind yX1_writeKind, Cond.code yX1_writeKind cX1_writeKind 4 none]
def wsX5_code_r11 : List Cond := [Cond.methodLink RX1 101 yX1_putOnes, Cond.instanceMethod yX1_putOnes, Cond.selects RX1 yX1_putOnes yX1_putOnes, Cond.code yX1_putOnes cX1_putOnes 2 none, Cond.methodLink RX1 83 yX2_expectedX, Cond.methodLink RX1 86 yX1_writeSigned, Cond.instanceMethod yX1_writeSigned, Cond.selects RX1 yX1_writeSigned yX1_writeSigned, Cond.code yX1_writeSigned cX1_writeSigned 4 none, Cond.static yX5_folded, Cond.code yX5_folded cX5_folded 1 (some .int), Cond.methodLink RX1 92 yX2_expectedY, Cond.methodLink RX1 98 yX1_writeLevels, Cond.instanceMethod yX1_writeLevels, Cond.selects RX1 yX1_writeLevels yX1_writeLevels, Cond.code yX1_writeLevels cX1_writeLevels 6 none, Cond.methodLink RX1 107 yX1_writeNumber, Cond.instanceMethod yX1_writeNumber, Cond.selects RX1 yX1_writeNumber yX1_writeNumber, Cond.code yX1_writeNumber cX1_writeNumber 4 none, Cond.methodLink RX1 52 yX2_bytesIn, Cond.instanceMethod yX2_bytesIn, Cond.selects RX2 yX2_bytesIn yX2_bytesIn, Cond.code yX2_bytesIn cX2_bytesIn 2 (some .int)]
def wsX5_code_r12 : List Cond := [Cond.fieldLink RX2 30 "GreyReel$Picture" "usedBits" "[I", Cond.methodLink RX5 144 yX2_bytesInAll, Cond.instanceMethod yX2_bytesInAll, Cond.selects RX2 yX2_bytesInAll yX2_bytesInAll, Cond.code yX2_bytesInAll cX2_bytesInAll 1 (some .int), Cond.methodLink RX2 61 yX2_firstByteOf, Cond.instanceMethod yX2_firstByteOf, Cond.selects RX2 yX2_firstByteOf yX2_firstByteOf, Cond.code yX2_firstByteOf cX2_firstByteOf 4 (some .int), Cond.methodLink RX2 57 yX2_bytesIn, Cond.methodLink RX5 148 yX1_copyOfBytes, Cond.instanceMethod yX1_copyOfBytes, Cond.selects RX1 yX1_copyOfBytes yX1_copyOfBytes, Cond.code yX1_copyOfBytes cX1_copyOfBytes 2 (some (.array .int)), Cond.methodLink RX1 29 yJ7_copyOf_59c91, Cond.static yJ7_copyOf_59c91, Cond.code yJ7_copyOf_59c91 cJ7_copyOf_59c91 3 (some (.array .int)), Cond.methodLink RJ7 316 ⟨"[I", "clone", "()Ljava/lang/Object;"⟩, Cond.sameMethod "[I" "java/lang/Object" "clone" "()Ljava/lang/Object;", Cond.native ⟨"java/lang/Object", "clone", "()Ljava/lang/Object;"⟩, Cond.instanceMethod ⟨"java/lang/Object", "clone", "()Ljava/lang/Object;"⟩, Cond.selects "[I" ⟨"[I", "clone", "()Ljava/lang/Object;"⟩ ⟨"java/lang/Object", "clone", "()Ljava/lang/Object;"⟩, Cond.classLink RJ7 317 "[I", Cond.arrayClass .int]
def wsX5_code_r13 : List Cond := [Cond.methodLink RJ7 304 Lib.Math.min.name, Cond.methodLink RJ7 150 arraycopyName, Cond.native arraycopyName, Cond.static arraycopyName, Cond.initialized "java/lang/System", Cond.instanceMethod yX2_init, Cond.code yX2_init cX2_init 1 none, Cond.methodLink RX2 3 objectInit, Cond.instanceMethod objectInit, Cond.code objectInit ⟨#[0xb1]⟩ 1 none, Cond.fieldLink RX2 21 "GreyReel$Picture" "price" "[I", Cond.fieldLink RX2 24 "GreyReel$Picture" "level" "[I", Cond.fieldLink RX2 27 "GreyReel$Picture" "result" "[I", Cond.arrayClass .boolean, Cond.fieldLink RX2 33 "GreyReel$Picture" "got" "[Z", Cond.fieldLink RX2 37 "GreyReel$Picture" "row" "[I", Cond.fieldLink RX2 40 "GreyReel$Picture" "number" "I", Cond.fieldLink RX2 44 "GreyReel$Picture" "q" "I", Cond.fieldLink RX2 47 "GreyReel$Picture" "error" "I", Cond.fieldLink RX2 50 "GreyReel$Picture" "isKeyPicture" "Z", Cond.fieldLink RX2 54 "GreyReel$Picture" "isSmoothed" "Z", Cond.methodLink RX5 158 yX5_steer, Cond.instanceMethod yX5_steer, Cond.selects RX5 yX5_steer yX5_steer]
def wsX5_code_r14 : List Cond := [Cond.code yX5_steer cX5_steer 4 none, Cond.fieldLink RX5 58 "GreyReel" "bytesWanted" "I"]
def wsX5_code : List Cond := .code yX5_code cX5_code 2 (some .int) :: ((wsX5_code_r1 ++ (wsX5_code_r2 ++ (wsX5_code_r3 ++ (wsX5_code_r4 ++ (wsX5_code_r5 ++ (wsX5_code_r6 ++ (wsX5_code_r7 ++ (wsX5_code_r8 ++ (wsX5_code_r9 ++ (wsX5_code_r10 ++ (wsX5_code_r11 ++ (wsX5_code_r12 ++ (wsX5_code_r13 ++ wsX5_code_r14))))))))))))) ++ wsX50 ++ wsX20 ++ wsX00 ++ wsX30 ++ wsX10 ++ (vx_atS RX5 218 "java/lang/IllegalStateException" ["java/lang/RuntimeException", "java/lang/Exception"]).filter goodWord)
def wsX5_pictures : List Cond := .code yX5_pictures cX5_pictures 1 (some .int) :: ([.fieldLink RX5 48 "GreyReel" "coded" "I"] ++ wsX50)
def wsX5_step : List Cond := .code yX5_step cX5_step 1 (some .int) :: ([.fieldLink RX5 55 "GreyReel" "nextStep" "I"] ++ wsX50)
def wsX5_pictureAt : List Cond := .code yX5_pictureAt cX5_pictureAt 3 (some (.object "GreyReel$Picture")) :: ([.classLink RX5 269 "java/lang/IndexOutOfBoundsException", .initialized "java/lang/IndexOutOfBoundsException", .methodLink RX5 211 yX5_pictureOrNull, .instanceMethod yX5_pictureOrNull, .selects RX5 yX5_pictureOrNull yX5_pictureOrNull, .initialized RX5, .code yX5_pictureOrNull cX5_pictureOrNull 2 (some (.object "GreyReel$Picture")), .fieldLink RX5 48 "GreyReel" "coded" "I", .fieldLink RX5 15 "GreyReel" "reel" "[LGreyReel$Picture;"] ++ wsX50 ++ (vx_atS RX5 273 "java/lang/IndexOutOfBoundsException" ["java/lang/RuntimeException", "java/lang/Exception"]).filter goodWord)
def wsX5_isKey : List Cond := .code yX5_isKey cX5_isKey 2 (some .boolean) :: ([.fieldLink RX5 155 "GreyReel$Picture" "isKeyPicture" "Z", .methodLink RX5 161 yX5_pictureAt, .instanceMethod yX5_pictureAt, .selects RX5 yX5_pictureAt yX5_pictureAt, .initialized RX5, .code yX5_pictureAt cX5_pictureAt 3 (some (.object "GreyReel$Picture")), .classLink RX5 269 "java/lang/IndexOutOfBoundsException", .initialized "java/lang/IndexOutOfBoundsException", .methodLink RX5 211 yX5_pictureOrNull, .instanceMethod yX5_pictureOrNull, .selects RX5 yX5_pictureOrNull yX5_pictureOrNull, .code yX5_pictureOrNull cX5_pictureOrNull 2 (some (.object "GreyReel$Picture")), .fieldLink RX5 48 "GreyReel" "coded" "I", .fieldLink RX5 15 "GreyReel" "reel" "[LGreyReel$Picture;"] ++ wsX20 ++ wsX50 ++ (vx_atS RX5 273 "java/lang/IndexOutOfBoundsException" ["java/lang/RuntimeException", "java/lang/Exception"]).filter goodWord)
def wsX5_placeIn : List Cond := .code yX5_placeIn cX5_placeIn 2 (some .int) :: ([.classLink RX5 269 "java/lang/IndexOutOfBoundsException", .initialized "java/lang/IndexOutOfBoundsException"] ++ (vx_atS RX5 273 "java/lang/IndexOutOfBoundsException" ["java/lang/RuntimeException", "java/lang/Exception"]).filter goodWord)
def wsX5_kindOf : List Cond := .code yX5_kindOf cX5_kindOf 3 (some .int) :: ([.fieldLink RX5 168 "GreyReel$Picture" "kind" "[I", .methodLink RX5 161 yX5_pictureAt, .instanceMethod yX5_pictureAt, .selects RX5 yX5_pictureAt yX5_pictureAt, .initialized RX5, .code yX5_pictureAt cX5_pictureAt 3 (some (.object "GreyReel$Picture")), .classLink RX5 269 "java/lang/IndexOutOfBoundsException", .initialized "java/lang/IndexOutOfBoundsException", .methodLink RX5 211 yX5_pictureOrNull, .instanceMethod yX5_pictureOrNull, .selects RX5 yX5_pictureOrNull yX5_pictureOrNull, .code yX5_pictureOrNull cX5_pictureOrNull 2 (some (.object "GreyReel$Picture")), .fieldLink RX5 48 "GreyReel" "coded" "I", .fieldLink RX5 15 "GreyReel" "reel" "[LGreyReel$Picture;", .methodLink RX5 171 yX5_placeIn, .static yX5_placeIn, .code yX5_placeIn cX5_placeIn 2 (some .int)] ++ wsX20 ++ wsX50 ++ (vx_atS RX5 273 "java/lang/IndexOutOfBoundsException" ["java/lang/RuntimeException", "java/lang/Exception"]).filter goodWord)
def wsX5_vectorX : List Cond := .code yX5_vectorX cX5_vectorX 3 (some .int) :: ([.fieldLink RX5 174 "GreyReel$Picture" "vx" "[I", .methodLink RX5 161 yX5_pictureAt, .instanceMethod yX5_pictureAt, .selects RX5 yX5_pictureAt yX5_pictureAt, .initialized RX5, .code yX5_pictureAt cX5_pictureAt 3 (some (.object "GreyReel$Picture")), .classLink RX5 269 "java/lang/IndexOutOfBoundsException", .initialized "java/lang/IndexOutOfBoundsException", .methodLink RX5 211 yX5_pictureOrNull, .instanceMethod yX5_pictureOrNull, .selects RX5 yX5_pictureOrNull yX5_pictureOrNull, .code yX5_pictureOrNull cX5_pictureOrNull 2 (some (.object "GreyReel$Picture")), .fieldLink RX5 48 "GreyReel" "coded" "I", .fieldLink RX5 15 "GreyReel" "reel" "[LGreyReel$Picture;", .methodLink RX5 171 yX5_placeIn, .static yX5_placeIn, .code yX5_placeIn cX5_placeIn 2 (some .int)] ++ wsX20 ++ wsX50 ++ (vx_atS RX5 273 "java/lang/IndexOutOfBoundsException" ["java/lang/RuntimeException", "java/lang/Exception"]).filter goodWord)
def wsX5_vectorY : List Cond := .code yX5_vectorY cX5_vectorY 3 (some .int) :: ([.fieldLink RX5 177 "GreyReel$Picture" "vy" "[I", .methodLink RX5 161 yX5_pictureAt, .instanceMethod yX5_pictureAt, .selects RX5 yX5_pictureAt yX5_pictureAt, .initialized RX5, .code yX5_pictureAt cX5_pictureAt 3 (some (.object "GreyReel$Picture")), .classLink RX5 269 "java/lang/IndexOutOfBoundsException", .initialized "java/lang/IndexOutOfBoundsException", .methodLink RX5 211 yX5_pictureOrNull, .instanceMethod yX5_pictureOrNull, .selects RX5 yX5_pictureOrNull yX5_pictureOrNull, .code yX5_pictureOrNull cX5_pictureOrNull 2 (some (.object "GreyReel$Picture")), .fieldLink RX5 48 "GreyReel" "coded" "I", .fieldLink RX5 15 "GreyReel" "reel" "[LGreyReel$Picture;", .methodLink RX5 171 yX5_placeIn, .static yX5_placeIn, .code yX5_placeIn cX5_placeIn 2 (some .int)] ++ wsX20 ++ wsX50 ++ (vx_atS RX5 273 "java/lang/IndexOutOfBoundsException" ["java/lang/RuntimeException", "java/lang/Exception"]).filter goodWord)
def wsX5_levels : List Cond := .code yX5_levels cX5_levels 3 (some .int) :: ([.methodLink RX5 161 yX5_pictureAt, .instanceMethod yX5_pictureAt, .selects RX5 yX5_pictureAt yX5_pictureAt, .initialized RX5, .code yX5_pictureAt cX5_pictureAt 3 (some (.object "GreyReel$Picture")), .classLink RX5 269 "java/lang/IndexOutOfBoundsException", .initialized "java/lang/IndexOutOfBoundsException", .methodLink RX5 211 yX5_pictureOrNull, .instanceMethod yX5_pictureOrNull, .selects RX5 yX5_pictureOrNull yX5_pictureOrNull, .code yX5_pictureOrNull cX5_pictureOrNull 2 (some (.object "GreyReel$Picture")), .fieldLink RX5 48 "GreyReel" "coded" "I", .fieldLink RX5 15 "GreyReel" "reel" "[LGreyReel$Picture;", .methodLink RX5 171 yX5_placeIn, .static yX5_placeIn, .code yX5_placeIn cX5_placeIn 2 (some .int), .methodLink RX5 180 yX2_levelsNotZero, .instanceMethod yX2_levelsNotZero, .selects RX2 yX2_levelsNotZero yX2_levelsNotZero, .initialized RX2, .code yX2_levelsNotZero cX2_levelsNotZero 4 (some .int), .fieldLink RX2 24 "GreyReel$Picture" "level" "[I"] ++ wsX50 ++ wsX20 ++ (vx_atS RX5 273 "java/lang/IndexOutOfBoundsException" ["java/lang/RuntimeException", "java/lang/Exception"]).filter goodWord)
def wsX5_pointAt : List Cond := .code yX5_pointAt cX5_pointAt 2 (some .int) :: ([.methodLink RX5 171 yX5_placeIn, .static yX5_placeIn, .initialized RX5, .code yX5_placeIn cX5_placeIn 2 (some .int), .classLink RX5 269 "java/lang/IndexOutOfBoundsException", .initialized "java/lang/IndexOutOfBoundsException"] ++ (vx_atS RX5 273 "java/lang/IndexOutOfBoundsException" ["java/lang/RuntimeException", "java/lang/Exception"]).filter goodWord)
def wsX5_resultAt : List Cond := .code yX5_resultAt cX5_resultAt 4 (some .int) :: ([.fieldLink RX5 186 "GreyReel$Picture" "result" "[I", .methodLink RX5 161 yX5_pictureAt, .instanceMethod yX5_pictureAt, .selects RX5 yX5_pictureAt yX5_pictureAt, .initialized RX5, .code yX5_pictureAt cX5_pictureAt 3 (some (.object "GreyReel$Picture")), .classLink RX5 269 "java/lang/IndexOutOfBoundsException", .initialized "java/lang/IndexOutOfBoundsException", .methodLink RX5 211 yX5_pictureOrNull, .instanceMethod yX5_pictureOrNull, .selects RX5 yX5_pictureOrNull yX5_pictureOrNull, .code yX5_pictureOrNull cX5_pictureOrNull 2 (some (.object "GreyReel$Picture")), .fieldLink RX5 48 "GreyReel" "coded" "I", .fieldLink RX5 15 "GreyReel" "reel" "[LGreyReel$Picture;", .methodLink RX5 120 yX5_pointAt, .static yX5_pointAt, .code yX5_pointAt cX5_pointAt 2 (some .int), .methodLink RX5 171 yX5_placeIn, .static yX5_placeIn, .code yX5_placeIn cX5_placeIn 2 (some .int)] ++ wsX20 ++ wsX50 ++ (vx_atS RX5 273 "java/lang/IndexOutOfBoundsException" ["java/lang/RuntimeException", "java/lang/Exception"]).filter goodWord)
def wsX5_errorOf : List Cond := .code yX5_errorOf cX5_errorOf 2 (some .int) :: ([.fieldLink RX5 189 "GreyReel$Picture" "error" "I", .methodLink RX5 161 yX5_pictureAt, .instanceMethod yX5_pictureAt, .selects RX5 yX5_pictureAt yX5_pictureAt, .initialized RX5, .code yX5_pictureAt cX5_pictureAt 3 (some (.object "GreyReel$Picture")), .classLink RX5 269 "java/lang/IndexOutOfBoundsException", .initialized "java/lang/IndexOutOfBoundsException", .methodLink RX5 211 yX5_pictureOrNull, .instanceMethod yX5_pictureOrNull, .selects RX5 yX5_pictureOrNull yX5_pictureOrNull, .code yX5_pictureOrNull cX5_pictureOrNull 2 (some (.object "GreyReel$Picture")), .fieldLink RX5 48 "GreyReel" "coded" "I", .fieldLink RX5 15 "GreyReel" "reel" "[LGreyReel$Picture;"] ++ wsX20 ++ wsX50 ++ (vx_atS RX5 273 "java/lang/IndexOutOfBoundsException" ["java/lang/RuntimeException", "java/lang/Exception"]).filter goodWord)
def wsX5_bytes : List Cond := .code yX5_bytes cX5_bytes 3 (some .int) :: ([.methodLink RX5 161 yX5_pictureAt, .instanceMethod yX5_pictureAt, .selects RX5 yX5_pictureAt yX5_pictureAt, .initialized RX5, .code yX5_pictureAt cX5_pictureAt 3 (some (.object "GreyReel$Picture")), .classLink RX5 269 "java/lang/IndexOutOfBoundsException", .initialized "java/lang/IndexOutOfBoundsException", .methodLink RX5 211 yX5_pictureOrNull, .instanceMethod yX5_pictureOrNull, .selects RX5 yX5_pictureOrNull yX5_pictureOrNull, .code yX5_pictureOrNull cX5_pictureOrNull 2 (some (.object "GreyReel$Picture")), .fieldLink RX5 48 "GreyReel" "coded" "I", .fieldLink RX5 15 "GreyReel" "reel" "[LGreyReel$Picture;", .methodLink RX5 171 yX5_placeIn, .static yX5_placeIn, .code yX5_placeIn cX5_placeIn 2 (some .int), .methodLink RX5 192 yX2_bytesIn, .instanceMethod yX2_bytesIn, .selects RX2 yX2_bytesIn yX2_bytesIn, .initialized RX2, .code yX2_bytesIn cX2_bytesIn 2 (some .int), .fieldLink RX2 30 "GreyReel$Picture" "usedBits" "[I"] ++ wsX50 ++ wsX20 ++ (vx_atS RX5 273 "java/lang/IndexOutOfBoundsException" ["java/lang/RuntimeException", "java/lang/Exception"]).filter goodWord)
def wsX5_bits : List Cond := .code yX5_bits cX5_bits 3 (some .int) :: ([.fieldLink RX5 195 "GreyReel$Picture" "usedBits" "[I", .methodLink RX5 161 yX5_pictureAt, .instanceMethod yX5_pictureAt, .selects RX5 yX5_pictureAt yX5_pictureAt, .initialized RX5, .code yX5_pictureAt cX5_pictureAt 3 (some (.object "GreyReel$Picture")), .classLink RX5 269 "java/lang/IndexOutOfBoundsException", .initialized "java/lang/IndexOutOfBoundsException", .methodLink RX5 211 yX5_pictureOrNull, .instanceMethod yX5_pictureOrNull, .selects RX5 yX5_pictureOrNull yX5_pictureOrNull, .code yX5_pictureOrNull cX5_pictureOrNull 2 (some (.object "GreyReel$Picture")), .fieldLink RX5 48 "GreyReel" "coded" "I", .fieldLink RX5 15 "GreyReel" "reel" "[LGreyReel$Picture;", .methodLink RX5 171 yX5_placeIn, .static yX5_placeIn, .code yX5_placeIn cX5_placeIn 2 (some .int)] ++ wsX20 ++ wsX50 ++ (vx_atS RX5 273 "java/lang/IndexOutOfBoundsException" ["java/lang/RuntimeException", "java/lang/Exception"]).filter goodWord)
def wsX5_byteAt_r1 : List Cond := [Cond.fieldLink RX5 152 "GreyReel$Picture" "row" "[I", Cond.methodLink RX5 161 yX5_pictureAt, Cond.instanceMethod yX5_pictureAt, Cond.selects RX5 yX5_pictureAt yX5_pictureAt, Cond.initialized RX5, Cond.code yX5_pictureAt cX5_pictureAt 3 (some (.object "GreyReel$Picture")), Cond.classLink RX5 269 "java/lang/IndexOutOfBoundsException", Cond.initialized "java/lang/IndexOutOfBoundsException", Cond.methodLink RX5 211 yX5_pictureOrNull, Cond.instanceMethod yX5_pictureOrNull, Cond.selects RX5 yX5_pictureOrNull yX5_pictureOrNull, Cond.code yX5_pictureOrNull cX5_pictureOrNull 2 (some (.object "GreyReel$Picture")), Cond.fieldLink RX5 48 "GreyReel" "coded" "I", Cond.fieldLink RX5 15 "GreyReel" "reel" "[LGreyReel$Picture;", Cond.methodLink RX5 171 yX5_placeIn, Cond.static yX5_placeIn, Cond.code yX5_placeIn cX5_placeIn 2 (some .int), Cond.methodLink RX5 198 yX2_firstByteOf, Cond.instanceMethod yX2_firstByteOf, Cond.selects RX2 yX2_firstByteOf yX2_firstByteOf, Cond.initialized RX2, Cond.code yX2_firstByteOf cX2_firstByteOf 4 (some .int), Cond.methodLink RX2 57 yX2_bytesIn, Cond.instanceMethod yX2_bytesIn]
def wsX5_byteAt_r2 : List Cond := [Cond.selects RX2 yX2_bytesIn yX2_bytesIn, Cond.code yX2_bytesIn cX2_bytesIn 2 (some .int), Cond.fieldLink RX2 30 "GreyReel$Picture" "usedBits" "[I", Cond.methodLink RX5 192 yX2_bytesIn]
def wsX5_byteAt : List Cond := .code yX5_byteAt cX5_byteAt 7 (some .int) :: ((wsX5_byteAt_r1 ++ wsX5_byteAt_r2) ++ wsX20 ++ wsX50 ++ (vx_atS RX5 273 "java/lang/IndexOutOfBoundsException" ["java/lang/RuntimeException", "java/lang/Exception"]).filter goodWord)
def wsX5_handOver : List Cond := .code yX5_handOver cX5_handOver 4 (some .boolean) :: ([.fieldLink RX5 286 "GreyReel$Picture" "number" "I", .fieldLink RX5 36 "GreyReel" "viewer" "LGreyReel$Viewer;", .fieldLink RX5 208 "GreyReel$Viewer" "shownPictures" "I", .fieldLink RX5 235 "GreyReel$Picture" "got" "[Z"] ++ wsX20 ++ wsX50 ++ wsX40)
def wsX5_hand : List Cond := .code yX5_hand cX5_hand 4 (some .boolean) :: ([.methodLink RX5 161 yX5_pictureAt, .instanceMethod yX5_pictureAt, .selects RX5 yX5_pictureAt yX5_pictureAt, .initialized RX5, .code yX5_pictureAt cX5_pictureAt 3 (some (.object "GreyReel$Picture")), .classLink RX5 269 "java/lang/IndexOutOfBoundsException", .initialized "java/lang/IndexOutOfBoundsException", .methodLink RX5 211 yX5_pictureOrNull, .instanceMethod yX5_pictureOrNull, .selects RX5 yX5_pictureOrNull yX5_pictureOrNull, .code yX5_pictureOrNull cX5_pictureOrNull 2 (some (.object "GreyReel$Picture")), .fieldLink RX5 48 "GreyReel" "coded" "I", .fieldLink RX5 15 "GreyReel" "reel" "[LGreyReel$Picture;", .methodLink RX5 171 yX5_placeIn, .static yX5_placeIn, .code yX5_placeIn cX5_placeIn 2 (some .int), .methodLink RX5 204 yX5_handOver, .instanceMethod yX5_handOver, .selects RX5 yX5_handOver yX5_handOver, .code yX5_handOver cX5_handOver 4 (some .boolean), .fieldLink RX5 286 "GreyReel$Picture" "number" "I", .fieldLink RX5 36 "GreyReel" "viewer" "LGreyReel$Viewer;", .fieldLink RX5 208 "GreyReel$Viewer" "shownPictures" "I", .fieldLink RX5 235 "GreyReel$Picture" "got" "[Z"] ++ wsX50 ++ wsX20 ++ wsX40 ++ (vx_atS RX5 273 "java/lang/IndexOutOfBoundsException" ["java/lang/RuntimeException", "java/lang/Exception"]).filter goodWord)
def wsX5_show_r1 : List Cond := [Cond.classLink RX5 214 "java/lang/IllegalStateException", Cond.initialized "java/lang/IllegalStateException", Cond.fieldLink RX5 36 "GreyReel" "viewer" "LGreyReel$Viewer;", Cond.fieldLink RX5 208 "GreyReel$Viewer" "shownPictures" "I", Cond.methodLink RX5 211 yX5_pictureOrNull, Cond.instanceMethod yX5_pictureOrNull, Cond.selects RX5 yX5_pictureOrNull yX5_pictureOrNull, Cond.initialized RX5, Cond.code yX5_pictureOrNull cX5_pictureOrNull 2 (some (.object "GreyReel$Picture")), Cond.fieldLink RX5 48 "GreyReel" "coded" "I", Cond.fieldLink RX5 15 "GreyReel" "reel" "[LGreyReel$Picture;", Cond.methodLink RX5 219 yX4_make, Cond.instanceMethod yX4_make, Cond.selects RX4 yX4_make yX4_make, Cond.initialized RX4, Cond.code yX4_make cX4_make 3 none, Cond.fieldLink RX4 12 "GreyReel$Viewer" "studio" "LGreyReel$Studio;", Cond.fieldLink RX4 18 "GreyReel$Viewer" "screen" "[I", Cond.fieldLink RX4 36 "GreyReel$Picture" "got" "[Z", Cond.fieldLink RX4 42 "GreyReel$Picture" "kind" "[I", Cond.fieldLink RX4 45 "GreyReel$Picture" "vx" "[I", Cond.fieldLink RX4 48 "GreyReel$Picture" "vy" "[I", Cond.fieldLink RX4 55 "GreyReel$Picture" "q" "I", Cond.fieldLink RX4 58 "GreyReel$Picture" "level" "[I"]
def wsX5_show_r2 : List Cond := [Cond.fieldLink RX4 69 "GreyReel$Picture" "isSmoothed" "Z", Cond.methodLink RX4 32 yX3_lookAhead, Cond.instanceMethod yX3_lookAhead, Cond.selects RX3 yX3_lookAhead yX3_lookAhead, Cond.initialized RX3, Cond.code yX3_lookAhead cX3_lookAhead 5 none, Cond.fieldLink RX3 11 "GreyReel$Studio" "ahead" "[I", Cond.static yX5_onRow, Cond.code yX5_onRow cX5_onRow 2 (some .int), Cond.methodLink RX5 92 Lib.Math.min.name, Cond.static Lib.Math.min.name, Cond.initialized "java/lang/Math", Cond.code Lib.Math.min.name Lib.Math.min.code 2 (some .int), Cond.methodLink RX5 86 Lib.Math.max.name, Cond.static Lib.Math.max.name, Cond.code Lib.Math.max.name Lib.Math.max.code 2 (some .int), Cond.methodLink RX4 51 yX3_foretell, Cond.instanceMethod yX3_foretell, Cond.selects RX3 yX3_foretell yX3_foretell, Cond.code yX3_foretell cX3_foretell 5 none, Cond.methodLink RX3 28 yX3_foretellMoved, Cond.instanceMethod yX3_foretellMoved, Cond.selects RX3 yX3_foretellMoved yX3_foretellMoved, Cond.code yX3_foretellMoved cX3_foretellMoved 9 none]
def wsX5_show_r3 : List Cond := [Cond.fieldLink RX3 21 "GreyReel$Studio" "foretold" "[I", Cond.methodLink RX3 42 yX3_startAhead, Cond.instanceMethod yX3_startAhead, Cond.selects RX3 yX3_startAhead yX3_startAhead, Cond.code yX3_startAhead cX3_startAhead 8 (some .int), Cond.methodLink RX3 46 yX3_between, Cond.instanceMethod yX3_between, Cond.selects RX3 yX3_between yX3_between, Cond.code yX3_between cX3_between 6 (some .int), Cond.methodLink RX3 32 yX3_foretellFlat, Cond.instanceMethod yX3_foretellFlat, Cond.selects RX3 yX3_foretellFlat yX3_foretellFlat, Cond.code yX3_foretellFlat cX3_foretellFlat 6 none, Cond.fieldLink RX3 18 "GreyReel$Studio" "made" "[I", Cond.static yX5_isFirstOfBand, Cond.code yX5_isFirstOfBand cX5_isFirstOfBand 1 (some .boolean), Cond.static yX5_firstPointOf, Cond.code yX5_firstPointOf cX5_firstPointOf 1 (some .int), Cond.methodLink RX3 62 yJ7_fill_53178, Cond.static yJ7_fill_53178, Cond.initialized RJ7, Cond.code yJ7_fill_53178 cJ7_fill_53178 4 none, Cond.methodLink RX3 36 yX3_foretellLeft, Cond.instanceMethod yX3_foretellLeft]
def wsX5_show_r4 : List Cond := [Cond.selects RX3 yX3_foretellLeft yX3_foretellLeft, Cond.code yX3_foretellLeft cX3_foretellLeft 4 none, Cond.methodLink RX3 39 yX3_foretellTrend, Cond.instanceMethod yX3_foretellTrend, Cond.selects RX3 yX3_foretellTrend yX3_foretellTrend, Cond.code yX3_foretellTrend cX3_foretellTrend 6 none, Cond.static yX5_clip, Cond.code yX5_clip cX5_clip 1 (some .int), Cond.methodLink RX4 61 yX3_makeBlock, Cond.instanceMethod yX3_makeBlock, Cond.selects RX3 yX3_makeBlock yX3_makeBlock, Cond.code yX3_makeBlock cX3_makeBlock 8 none, Cond.fieldLink RX3 15 "GreyReel$Studio" "quarterNumbers" "[I", Cond.fieldLink RX3 80 "GreyReel$Studio" "ORDER" "[I", Cond.methodLink RX3 77 yX3_turnQuarter, Cond.instanceMethod yX3_turnQuarter, Cond.selects RX3 yX3_turnQuarter yX3_turnQuarter, Cond.code yX3_turnQuarter cX3_turnQuarter 2 none, Cond.methodLink RX3 86 yX3_turnFour, Cond.instanceMethod yX3_turnFour, Cond.selects RX3 yX3_turnFour yX3_turnFour, Cond.code yX3_turnFour cX3_turnFour 7 none, Cond.methodLink RX3 71 yX3_placeInBlock, Cond.static yX3_placeInBlock]
def wsX5_show_r5 : List Cond := [Cond.code yX3_placeInBlock cX3_placeInBlock 4 (some .int), Cond.methodLink RX3 74 yX3_pointOf, Cond.static yX3_pointOf, Cond.code yX3_pointOf cX3_pointOf 2 (some .int), Cond.methodLink RX4 65 yX4_conceal, Cond.instanceMethod yX4_conceal, Cond.selects RX4 yX4_conceal yX4_conceal, Cond.code yX4_conceal cX4_conceal 7 none, Cond.methodLink RX4 81 yX3_makeForetold, Cond.instanceMethod yX3_makeForetold, Cond.selects RX3 yX3_makeForetold yX3_makeForetold, Cond.code yX3_makeForetold cX3_makeForetold 3 none, Cond.methodLink RX4 73 yX2_bandsGot, Cond.instanceMethod yX2_bandsGot, Cond.selects RX2 yX2_bandsGot yX2_bandsGot, Cond.initialized RX2, Cond.code yX2_bandsGot cX2_bandsGot 3 (some .int), Cond.fieldLink RX2 33 "GreyReel$Picture" "got" "[Z", Cond.methodLink RX4 77 yX3_smooth, Cond.instanceMethod yX3_smooth, Cond.selects RX3 yX3_smooth yX3_smooth, Cond.code yX3_smooth cX3_smooth 4 none, Cond.methodLink RX3 90 yX3_smoothAcross, Cond.instanceMethod yX3_smoothAcross]
def wsX5_show_r6 : List Cond := [Cond.selects RX3 yX3_smoothAcross yX3_smoothAcross, Cond.code yX3_smoothAcross cX3_smoothAcross 10 none, Cond.methodLink RX3 53 Lib.Math.abs.name, Cond.static Lib.Math.abs.name, Cond.code Lib.Math.abs.name Lib.Math.abs.code 1 (some .int), Cond.methodLink RX5 222 yX4_takeMade, Cond.instanceMethod yX4_takeMade, Cond.selects RX4 yX4_takeMade yX4_takeMade, Cond.code yX4_takeMade cX4_takeMade 1 none, Cond.fieldLink RX4 84 "GreyReel$Studio" "made" "[I", Cond.methodLink RX4 87 arraycopyName, Cond.native arraycopyName, Cond.static arraycopyName, Cond.initialized "java/lang/System", Cond.fieldLink RX4 22 "GreyReel$Viewer" "shownPictures" "I", Cond.methodLink RX5 225 yX2_bandsGot]
def wsX5_show : List Cond := .code yX5_show cX5_show 2 (some .int) :: ((wsX5_show_r1 ++ (wsX5_show_r2 ++ (wsX5_show_r3 ++ (wsX5_show_r4 ++ (wsX5_show_r5 ++ wsX5_show_r6))))) ++ wsX50 ++ wsX40 ++ wsX20 ++ wsX30 ++ (vx_atS RX5 218 "java/lang/IllegalStateException" ["java/lang/RuntimeException", "java/lang/Exception"]).filter goodWord)
def wsX5_shown : List Cond := .code yX5_shown cX5_shown 1 (some .int) :: ([.fieldLink RX5 36 "GreyReel" "viewer" "LGreyReel$Viewer;", .fieldLink RX5 208 "GreyReel$Viewer" "shownPictures" "I"] ++ wsX50 ++ wsX40)
def wsX5_shownAt : List Cond := .code yX5_shownAt cX5_shownAt 3 (some .int) :: ([.fieldLink RX5 36 "GreyReel" "viewer" "LGreyReel$Viewer;", .fieldLink RX5 228 "GreyReel$Viewer" "screen" "[I", .methodLink RX5 120 yX5_pointAt, .static yX5_pointAt, .initialized RX5, .code yX5_pointAt cX5_pointAt 2 (some .int), .methodLink RX5 171 yX5_placeIn, .static yX5_placeIn, .code yX5_placeIn cX5_placeIn 2 (some .int), .classLink RX5 269 "java/lang/IndexOutOfBoundsException", .initialized "java/lang/IndexOutOfBoundsException"] ++ wsX50 ++ wsX40 ++ (vx_atS RX5 273 "java/lang/IndexOutOfBoundsException" ["java/lang/RuntimeException", "java/lang/Exception"]).filter goodWord)
def wsX5_distance : List Cond := .code yX5_distance cX5_distance 4 (some .int) :: ([.methodLink RX5 274 Lib.Math.abs.name, .static Lib.Math.abs.name, .initialized "java/lang/Math", .code Lib.Math.abs.name Lib.Math.abs.code 1 (some .int)])
def wsX5_drift : List Cond := .code yX5_drift cX5_drift 2 (some .int) :: ([.fieldLink RX5 36 "GreyReel" "viewer" "LGreyReel$Viewer;", .fieldLink RX5 208 "GreyReel$Viewer" "shownPictures" "I", .fieldLink RX5 228 "GreyReel$Viewer" "screen" "[I", .fieldLink RX5 186 "GreyReel$Picture" "result" "[I", .methodLink RX5 211 yX5_pictureOrNull, .instanceMethod yX5_pictureOrNull, .selects RX5 yX5_pictureOrNull yX5_pictureOrNull, .initialized RX5, .code yX5_pictureOrNull cX5_pictureOrNull 2 (some (.object "GreyReel$Picture")), .fieldLink RX5 48 "GreyReel" "coded" "I", .fieldLink RX5 15 "GreyReel" "reel" "[LGreyReel$Picture;", .methodLink RX5 231 yX5_distance, .static yX5_distance, .code yX5_distance cX5_distance 4 (some .int), .methodLink RX5 274 Lib.Math.abs.name, .static Lib.Math.abs.name, .initialized "java/lang/Math", .code Lib.Math.abs.name Lib.Math.abs.code 1 (some .int)] ++ wsX50 ++ wsX40 ++ wsX20)
def wsX5_bytesWith_r1 : List Cond := [Cond.classLink RX5 75 "java/lang/IllegalArgumentException", Cond.initialized "java/lang/IllegalArgumentException", Cond.fieldLink RX5 29 "GreyReel" "writer" "LGreyReel$PacketWriter;", Cond.fieldLink RX5 44 "GreyReel" "draft" "LGreyReel$Picture;", Cond.methodLink RX5 71 yX5_isWithin, Cond.static yX5_isWithin, Cond.initialized RX5, Cond.code yX5_isWithin cX5_isWithin 3 (some .boolean), Cond.methodLink RX5 133 yX5_refuseIfFull, Cond.instanceMethod yX5_refuseIfFull, Cond.selects RX5 yX5_refuseIfFull yX5_refuseIfFull, Cond.code yX5_refuseIfFull cX5_refuseIfFull 1 none, Cond.classLink RX5 214 "java/lang/IllegalStateException", Cond.initialized "java/lang/IllegalStateException", Cond.fieldLink RX5 48 "GreyReel" "coded" "I", Cond.methodLink RX5 136 yX5_draftNext, Cond.instanceMethod yX5_draftNext, Cond.selects RX5 yX5_draftNext yX5_draftNext, Cond.code yX5_draftNext cX5_draftNext 3 none, Cond.fieldLink RX5 22 "GreyReel" "coder" "LGreyReel$Coder;", Cond.fieldLink RX5 281 "GreyReel$Coder" "studio" "LGreyReel$Studio;", Cond.fieldLink RX5 186 "GreyReel$Picture" "result" "[I", Cond.fieldLink RX5 286 "GreyReel$Picture" "number" "I", Cond.fieldLink RX5 165 "GreyReel$Picture" "q" "I"]
def wsX5_bytesWith_r2 : List Cond := [Cond.fieldLink RX5 64 "GreyReel" "isSmoothing" "Z", Cond.fieldLink RX5 289 "GreyReel$Picture" "isSmoothed" "Z", Cond.fieldLink RX5 155 "GreyReel$Picture" "isKeyPicture" "Z", Cond.fieldLink RX5 9 "GreyReel" "canvas" "[I", Cond.methodLink RX5 211 yX5_pictureOrNull, Cond.instanceMethod yX5_pictureOrNull, Cond.selects RX5 yX5_pictureOrNull yX5_pictureOrNull, Cond.code yX5_pictureOrNull cX5_pictureOrNull 2 (some (.object "GreyReel$Picture")), Cond.fieldLink RX5 15 "GreyReel" "reel" "[LGreyReel$Picture;", Cond.methodLink RX5 282 yX3_lookAhead, Cond.instanceMethod yX3_lookAhead, Cond.selects RX3 yX3_lookAhead yX3_lookAhead, Cond.initialized RX3, Cond.code yX3_lookAhead cX3_lookAhead 5 none, Cond.fieldLink RX3 11 "GreyReel$Studio" "ahead" "[I", Cond.static yX5_onRow, Cond.code yX5_onRow cX5_onRow 2 (some .int), Cond.methodLink RX5 92 Lib.Math.min.name, Cond.static Lib.Math.min.name, Cond.initialized "java/lang/Math", Cond.code Lib.Math.min.name Lib.Math.min.code 2 (some .int), Cond.methodLink RX5 86 Lib.Math.max.name, Cond.static Lib.Math.max.name, Cond.code Lib.Math.max.name Lib.Math.max.code 2 (some .int)]
def wsX5_bytesWith_r3 : List Cond := [Cond.methodLink RX5 129 yX5_isKeyDue, Cond.instanceMethod yX5_isKeyDue, Cond.selects RX5 yX5_isKeyDue yX5_isKeyDue, Cond.code yX5_isKeyDue cX5_isKeyDue 1 (some .boolean), Cond.fieldLink RX5 68 "GreyReel" "isKeyAsked" "Z", Cond.fieldLink RX5 52 "GreyReel" "deltasBehindKey" "I", Cond.fieldLink RX5 61 "GreyReel" "keyInterval" "I", Cond.methodLink RX5 292 yX0_codeAll, Cond.instanceMethod yX0_codeAll, Cond.selects RX0 yX0_codeAll yX0_codeAll, Cond.initialized RX0, Cond.code yX0_codeAll cX0_codeAll 6 none, Cond.fieldLink RX0 35 "GreyReel$Picture" "isSmoothed" "Z", Cond.fieldLink RX0 12 "GreyReel$Coder" "studio" "LGreyReel$Studio;", Cond.fieldLink RX0 41 "GreyReel$Picture" "q" "I", Cond.fieldLink RX0 48 "GreyReel$Studio" "made" "[I", Cond.fieldLink RX0 52 "GreyReel$Picture" "result" "[I", Cond.fieldLink RX0 55 "GreyReel$Picture" "error" "I", Cond.methodLink RX0 31 yX0_codeBlock, Cond.instanceMethod yX0_codeBlock, Cond.selects RX0 yX0_codeBlock yX0_codeBlock, Cond.code yX0_codeBlock cX0_codeBlock 7 none, Cond.constant RX0 58 (1048576), Cond.fieldLink RX0 28 "GreyReel$Coder" "bestPrice" "I"]
def wsX5_bytesWith_r4 : List Cond := [Cond.fieldLink RX0 59 "GreyReel$Picture" "isKeyPicture" "Z", Cond.fieldLink RX0 18 "GreyReel$Coder" "bestKind" "I", Cond.fieldLink RX0 22 "GreyReel$Coder" "bestX" "I", Cond.fieldLink RX0 25 "GreyReel$Coder" "bestY" "I", Cond.fieldLink RX0 77 "GreyReel$Picture" "level" "[I", Cond.fieldLink RX0 91 "GreyReel$Picture" "kind" "[I", Cond.fieldLink RX0 94 "GreyReel$Picture" "vx" "[I", Cond.fieldLink RX0 97 "GreyReel$Picture" "vy" "[I", Cond.fieldLink RX0 100 "GreyReel$Picture" "price" "[I", Cond.methodLink RX0 62 yX0_seekVector, Cond.instanceMethod yX0_seekVector, Cond.selects RX0 yX0_seekVector yX0_seekVector, Cond.code yX0_seekVector cX0_seekVector 8 none, Cond.methodLink RX0 107 yX0_tryVector, Cond.instanceMethod yX0_tryVector, Cond.selects RX0 yX0_tryVector yX0_tryVector, Cond.code yX0_tryVector cX0_tryVector 9 none, Cond.methodLink RX0 115 Lib.Math.abs.name, Cond.static Lib.Math.abs.name, Cond.code Lib.Math.abs.name Lib.Math.abs.code 1 (some .int), Cond.methodLink RX0 84 yX2_expectedX, Cond.instanceMethod yX2_expectedX, Cond.selects RX2 yX2_expectedX yX2_expectedX, Cond.initialized RX2]
def wsX5_bytesWith_r5 : List Cond := [Cond.code yX2_expectedX cX2_expectedX 2 (some .int), Cond.fieldLink RX2 15 "GreyReel$Picture" "vx" "[I", Cond.static yX5_isFirstOfBand, Cond.code yX5_isFirstOfBand cX5_isFirstOfBand 1 (some .boolean), Cond.methodLink RX0 88 yX2_expectedY, Cond.instanceMethod yX2_expectedY, Cond.selects RX2 yX2_expectedY yX2_expectedY, Cond.code yX2_expectedY cX2_expectedY 2 (some .int), Cond.fieldLink RX2 18 "GreyReel$Picture" "vy" "[I", Cond.methodLink RX0 120 yX3_differenceMoved, Cond.instanceMethod yX3_differenceMoved, Cond.selects RX3 yX3_differenceMoved yX3_differenceMoved, Cond.code yX3_differenceMoved cX3_differenceMoved 14 (some .int), Cond.methodLink RX3 53 Lib.Math.abs.name, Cond.methodLink RX3 42 yX3_startAhead, Cond.instanceMethod yX3_startAhead, Cond.selects RX3 yX3_startAhead yX3_startAhead, Cond.code yX3_startAhead cX3_startAhead 8 (some .int), Cond.static yX5_firstPointOf, Cond.code yX5_firstPointOf cX5_firstPointOf 1 (some .int), Cond.methodLink RX3 46 yX3_between, Cond.instanceMethod yX3_between, Cond.selects RX3 yX3_between yX3_between, Cond.code yX3_between cX3_between 6 (some .int)]
def wsX5_bytesWith_r6 : List Cond := [Cond.methodLink RX0 124 yX0_take, Cond.instanceMethod yX0_take, Cond.selects RX0 yX0_take yX0_take, Cond.code yX0_take cX0_take 5 none, Cond.methodLink RX0 65 yX0_tryKind, Cond.instanceMethod yX0_tryKind, Cond.selects RX0 yX0_tryKind yX0_tryKind, Cond.code yX0_tryKind cX0_tryKind 6 none, Cond.methodLink RX0 73 yX3_foretell, Cond.instanceMethod yX3_foretell, Cond.selects RX3 yX3_foretell yX3_foretell, Cond.code yX3_foretell cX3_foretell 5 none, Cond.methodLink RX3 28 yX3_foretellMoved, Cond.instanceMethod yX3_foretellMoved, Cond.selects RX3 yX3_foretellMoved yX3_foretellMoved, Cond.code yX3_foretellMoved cX3_foretellMoved 9 none, Cond.fieldLink RX3 21 "GreyReel$Studio" "foretold" "[I", Cond.methodLink RX3 32 yX3_foretellFlat, Cond.instanceMethod yX3_foretellFlat, Cond.selects RX3 yX3_foretellFlat yX3_foretellFlat, Cond.code yX3_foretellFlat cX3_foretellFlat 6 none, Cond.fieldLink RX3 18 "GreyReel$Studio" "made" "[I", Cond.methodLink RX3 62 yJ7_fill_53178, Cond.static yJ7_fill_53178]
def wsX5_bytesWith_r7 : List Cond := [Cond.initialized RJ7, Cond.code yJ7_fill_53178 cJ7_fill_53178 4 none, Cond.methodLink RX3 36 yX3_foretellLeft, Cond.instanceMethod yX3_foretellLeft, Cond.selects RX3 yX3_foretellLeft yX3_foretellLeft, Cond.code yX3_foretellLeft cX3_foretellLeft 4 none, Cond.methodLink RX3 39 yX3_foretellTrend, Cond.instanceMethod yX3_foretellTrend, Cond.selects RX3 yX3_foretellTrend yX3_foretellTrend, Cond.code yX3_foretellTrend cX3_foretellTrend 6 none, Cond.static yX5_clip, Cond.code yX5_clip cX5_clip 1 (some .int), Cond.methodLink RX0 127 yX3_difference, Cond.instanceMethod yX3_difference, Cond.selects RX3 yX3_difference yX3_difference, Cond.code yX3_difference cX3_difference 6 (some .int), Cond.methodLink RX0 80 yX3_measure, Cond.instanceMethod yX3_measure, Cond.selects RX3 yX3_measure yX3_measure, Cond.code yX3_measure cX3_measure 10 (some .boolean), Cond.fieldLink RX3 15 "GreyReel$Studio" "quarterNumbers" "[I", Cond.fieldLink RX3 80 "GreyReel$Studio" "ORDER" "[I", Cond.methodLink RX3 71 yX3_placeInBlock, Cond.static yX3_placeInBlock]
def wsX5_bytesWith_r8 : List Cond := [Cond.code yX3_placeInBlock cX3_placeInBlock 4 (some .int), Cond.methodLink RX3 74 yX3_pointOf, Cond.static yX3_pointOf, Cond.code yX3_pointOf cX3_pointOf 2 (some .int), Cond.methodLink RX3 77 yX3_turnQuarter, Cond.instanceMethod yX3_turnQuarter, Cond.selects RX3 yX3_turnQuarter yX3_turnQuarter, Cond.code yX3_turnQuarter cX3_turnQuarter 2 none, Cond.methodLink RX3 86 yX3_turnFour, Cond.instanceMethod yX3_turnFour, Cond.selects RX3 yX3_turnFour yX3_turnFour, Cond.code yX3_turnFour cX3_turnFour 7 none, Cond.methodLink RX3 83 yX3_levelOf, Cond.static yX3_levelOf, Cond.code yX3_levelOf cX3_levelOf 4 (some .int), Cond.methodLink RX0 103 yX3_makeBlock, Cond.instanceMethod yX3_makeBlock, Cond.selects RX3 yX3_makeBlock yX3_makeBlock, Cond.code yX3_makeBlock cX3_makeBlock 8 none, Cond.methodLink RX0 44 yX3_smooth, Cond.instanceMethod yX3_smooth, Cond.selects RX3 yX3_smooth yX3_smooth, Cond.code yX3_smooth cX3_smooth 4 none, Cond.methodLink RX3 90 yX3_smoothAcross]
def wsX5_bytesWith_r9 : List Cond := [Cond.instanceMethod yX3_smoothAcross, Cond.selects RX3 yX3_smoothAcross yX3_smoothAcross, Cond.code yX3_smoothAcross cX3_smoothAcross 10 none, Cond.methodLink RX5 296 yX2_freshBlocks, Cond.instanceMethod yX2_freshBlocks, Cond.selects RX2 yX2_freshBlocks yX2_freshBlocks, Cond.code yX2_freshBlocks cX2_freshBlocks 1 (some .int), Cond.methodLink RX2 64 yX2_blocksOf, Cond.instanceMethod yX2_blocksOf, Cond.selects RX2 yX2_blocksOf yX2_blocksOf, Cond.code yX2_blocksOf cX2_blocksOf 4 (some .int), Cond.fieldLink RX2 9 "GreyReel$Picture" "kind" "[I", Cond.methodLink RX5 140 yX1_write, Cond.instanceMethod yX1_write, Cond.selects RX1 yX1_write yX1_write, Cond.initialized RX1, Cond.code yX1_write cX1_write 5 none, Cond.fieldLink RX1 11 "GreyReel$PacketWriter" "row" "[I", Cond.fieldLink RX1 21 "GreyReel$PacketWriter" "bitsWritten" "I", Cond.fieldLink RX1 47 "GreyReel$Picture" "usedBits" "[I", Cond.methodLink RX1 35 yJ7_fill_53178, Cond.methodLink RX1 39 yX1_startBand, Cond.instanceMethod yX1_startBand, Cond.selects RX1 yX1_startBand yX1_startBand]
def wsX5_bytesWith_r10 : List Cond := [Cond.code yX1_startBand cX1_startBand 3 none, Cond.fieldLink RX1 15 "GreyReel$PacketWriter" "kindRow" "[I", Cond.fieldLink RX1 18 "GreyReel$PacketWriter" "mean" "[I", Cond.fieldLink RX1 56 "GreyReel$Picture" "number" "I", Cond.fieldLink RX1 63 "GreyReel$Picture" "isKeyPicture" "Z", Cond.fieldLink RX1 67 "GreyReel$Picture" "q" "I", Cond.fieldLink RX1 70 "GreyReel$Picture" "isSmoothed" "Z", Cond.methodLink RX1 59 yX1_put, Cond.instanceMethod yX1_put, Cond.selects RX1 yX1_put yX1_put, Cond.code yX1_put cX1_put 5 none, Cond.methodLink RX1 43 yX1_writeBlock, Cond.instanceMethod yX1_writeBlock, Cond.selects RX1 yX1_writeBlock yX1_writeBlock, Cond.code yX1_writeBlock cX1_writeBlock 5 none, Cond.fieldLink RX1 73 "GreyReel$Picture" "kind" "[I", Cond.fieldLink RX1 80 "GreyReel$Picture" "vx" "[I", Cond.fieldLink RX1 89 "GreyReel$Picture" "vy" "[I", Cond.fieldLink RX1 95 "GreyReel$Picture" "level" "[I", Cond.methodLink RX1 76 yX1_writeKind, Cond.instanceMethod yX1_writeKind, Cond.selects RX1 yX1_writeKind yX1_writeKind, Cond.code yX1_writeKind cX1_writeKind 4 none, Cond.methodLink RX1 101 yX1_putOnes]
def wsX5_bytesWith_r11 : List Cond := [Cond.instanceMethod yX1_putOnes, Cond.selects RX1 yX1_putOnes yX1_putOnes, Cond.code yX1_putOnes cX1_putOnes 2 none, Cond.methodLink RX1 83 yX2_expectedX, Cond.methodLink RX1 86 yX1_writeSigned, Cond.instanceMethod yX1_writeSigned, Cond.selects RX1 yX1_writeSigned yX1_writeSigned, Cond.code yX1_writeSigned cX1_writeSigned 4 none, Cond.static yX5_folded, Cond.code yX5_folded cX5_folded 1 (some .int), Cond.methodLink RX1 92 yX2_expectedY, Cond.methodLink RX1 98 yX1_writeLevels, Cond.instanceMethod yX1_writeLevels, Cond.selects RX1 yX1_writeLevels yX1_writeLevels, Cond.code yX1_writeLevels cX1_writeLevels 6 none, Cond.methodLink RX1 107 yX1_writeNumber, Cond.instanceMethod yX1_writeNumber, Cond.selects RX1 yX1_writeNumber yX1_writeNumber, Cond.code yX1_writeNumber cX1_writeNumber 4 none, Cond.methodLink RX1 52 yX2_bytesIn, Cond.instanceMethod yX2_bytesIn, Cond.selects RX2 yX2_bytesIn yX2_bytesIn, Cond.code yX2_bytesIn cX2_bytesIn 2 (some .int), Cond.fieldLink RX2 30 "GreyReel$Picture" "usedBits" "[I"]
def wsX5_bytesWith_r12 : List Cond := [Cond.methodLink RX5 144 yX2_bytesInAll, Cond.instanceMethod yX2_bytesInAll, Cond.selects RX2 yX2_bytesInAll yX2_bytesInAll, Cond.code yX2_bytesInAll cX2_bytesInAll 1 (some .int), Cond.methodLink RX2 61 yX2_firstByteOf, Cond.instanceMethod yX2_firstByteOf, Cond.selects RX2 yX2_firstByteOf yX2_firstByteOf, Cond.code yX2_firstByteOf cX2_firstByteOf 4 (some .int), Cond.methodLink RX2 57 yX2_bytesIn]
def wsX5_bytesWith : List Cond := .code yX5_bytesWith cX5_bytesWith 2 (some .int) :: ((wsX5_bytesWith_r1 ++ (wsX5_bytesWith_r2 ++ (wsX5_bytesWith_r3 ++ (wsX5_bytesWith_r4 ++ (wsX5_bytesWith_r5 ++ (wsX5_bytesWith_r6 ++ (wsX5_bytesWith_r7 ++ (wsX5_bytesWith_r8 ++ (wsX5_bytesWith_r9 ++ (wsX5_bytesWith_r10 ++ (wsX5_bytesWith_r11 ++ wsX5_bytesWith_r12))))))))))) ++ wsX50 ++ wsX00 ++ wsX20 ++ wsX30 ++ wsX10 ++ (vx_atS RX5 79 "java/lang/IllegalArgumentException" ["java/lang/RuntimeException", "java/lang/Exception"]).filter goodWord ++ (vx_atS RX5 218 "java/lang/IllegalStateException" ["java/lang/RuntimeException", "java/lang/Exception"]).filter goodWord)
def wsX5_priceOf_r1 : List Cond := [Cond.fieldLink RX5 55 "GreyReel" "nextStep" "I", Cond.fieldLink RX5 44 "GreyReel" "draft" "LGreyReel$Picture;", Cond.fieldLink RX5 239 "GreyReel$Picture" "price" "[I", Cond.methodLink RX5 171 yX5_placeIn, Cond.static yX5_placeIn, Cond.initialized RX5, Cond.code yX5_placeIn cX5_placeIn 2 (some .int), Cond.classLink RX5 269 "java/lang/IndexOutOfBoundsException", Cond.initialized "java/lang/IndexOutOfBoundsException", Cond.methodLink RX5 133 yX5_refuseIfFull, Cond.instanceMethod yX5_refuseIfFull, Cond.selects RX5 yX5_refuseIfFull yX5_refuseIfFull, Cond.code yX5_refuseIfFull cX5_refuseIfFull 1 none, Cond.classLink RX5 214 "java/lang/IllegalStateException", Cond.initialized "java/lang/IllegalStateException", Cond.fieldLink RX5 48 "GreyReel" "coded" "I", Cond.methodLink RX5 136 yX5_draftNext, Cond.instanceMethod yX5_draftNext, Cond.selects RX5 yX5_draftNext yX5_draftNext, Cond.code yX5_draftNext cX5_draftNext 3 none, Cond.fieldLink RX5 22 "GreyReel" "coder" "LGreyReel$Coder;", Cond.fieldLink RX5 281 "GreyReel$Coder" "studio" "LGreyReel$Studio;", Cond.fieldLink RX5 186 "GreyReel$Picture" "result" "[I", Cond.fieldLink RX5 286 "GreyReel$Picture" "number" "I"]
def wsX5_priceOf_r2 : List Cond := [Cond.fieldLink RX5 165 "GreyReel$Picture" "q" "I", Cond.fieldLink RX5 64 "GreyReel" "isSmoothing" "Z", Cond.fieldLink RX5 289 "GreyReel$Picture" "isSmoothed" "Z", Cond.fieldLink RX5 155 "GreyReel$Picture" "isKeyPicture" "Z", Cond.fieldLink RX5 9 "GreyReel" "canvas" "[I", Cond.methodLink RX5 211 yX5_pictureOrNull, Cond.instanceMethod yX5_pictureOrNull, Cond.selects RX5 yX5_pictureOrNull yX5_pictureOrNull, Cond.code yX5_pictureOrNull cX5_pictureOrNull 2 (some (.object "GreyReel$Picture")), Cond.fieldLink RX5 15 "GreyReel" "reel" "[LGreyReel$Picture;", Cond.methodLink RX5 282 yX3_lookAhead, Cond.instanceMethod yX3_lookAhead, Cond.selects RX3 yX3_lookAhead yX3_lookAhead, Cond.initialized RX3, Cond.code yX3_lookAhead cX3_lookAhead 5 none, Cond.fieldLink RX3 11 "GreyReel$Studio" "ahead" "[I", Cond.static yX5_onRow, Cond.code yX5_onRow cX5_onRow 2 (some .int), Cond.methodLink RX5 92 Lib.Math.min.name, Cond.static Lib.Math.min.name, Cond.initialized "java/lang/Math", Cond.code Lib.Math.min.name Lib.Math.min.code 2 (some .int), Cond.methodLink RX5 86 Lib.Math.max.name, Cond.static Lib.Math.max.name]
def wsX5_priceOf_r3 : List Cond := [Cond.code Lib.Math.max.name Lib.Math.max.code 2 (some .int), Cond.methodLink RX5 129 yX5_isKeyDue, Cond.instanceMethod yX5_isKeyDue, Cond.selects RX5 yX5_isKeyDue yX5_isKeyDue, Cond.code yX5_isKeyDue cX5_isKeyDue 1 (some .boolean), Cond.fieldLink RX5 68 "GreyReel" "isKeyAsked" "Z", Cond.fieldLink RX5 52 "GreyReel" "deltasBehindKey" "I", Cond.fieldLink RX5 61 "GreyReel" "keyInterval" "I", Cond.methodLink RX5 292 yX0_codeAll, Cond.instanceMethod yX0_codeAll, Cond.selects RX0 yX0_codeAll yX0_codeAll, Cond.initialized RX0, Cond.code yX0_codeAll cX0_codeAll 6 none, Cond.fieldLink RX0 35 "GreyReel$Picture" "isSmoothed" "Z", Cond.fieldLink RX0 12 "GreyReel$Coder" "studio" "LGreyReel$Studio;", Cond.fieldLink RX0 41 "GreyReel$Picture" "q" "I", Cond.fieldLink RX0 48 "GreyReel$Studio" "made" "[I", Cond.fieldLink RX0 52 "GreyReel$Picture" "result" "[I", Cond.fieldLink RX0 55 "GreyReel$Picture" "error" "I", Cond.methodLink RX0 31 yX0_codeBlock, Cond.instanceMethod yX0_codeBlock, Cond.selects RX0 yX0_codeBlock yX0_codeBlock, Cond.code yX0_codeBlock cX0_codeBlock 7 none, Cond.constant RX0 58 (1048576)]
def wsX5_priceOf_r4 : List Cond := [Cond.fieldLink RX0 28 "GreyReel$Coder" "bestPrice" "I", Cond.fieldLink RX0 59 "GreyReel$Picture" "isKeyPicture" "Z", Cond.fieldLink RX0 18 "GreyReel$Coder" "bestKind" "I", Cond.fieldLink RX0 22 "GreyReel$Coder" "bestX" "I", Cond.fieldLink RX0 25 "GreyReel$Coder" "bestY" "I", Cond.fieldLink RX0 77 "GreyReel$Picture" "level" "[I", Cond.fieldLink RX0 91 "GreyReel$Picture" "kind" "[I", Cond.fieldLink RX0 94 "GreyReel$Picture" "vx" "[I", Cond.fieldLink RX0 97 "GreyReel$Picture" "vy" "[I", Cond.fieldLink RX0 100 "GreyReel$Picture" "price" "[I", Cond.methodLink RX0 62 yX0_seekVector, Cond.instanceMethod yX0_seekVector, Cond.selects RX0 yX0_seekVector yX0_seekVector, Cond.code yX0_seekVector cX0_seekVector 8 none, Cond.methodLink RX0 107 yX0_tryVector, Cond.instanceMethod yX0_tryVector, Cond.selects RX0 yX0_tryVector yX0_tryVector, Cond.code yX0_tryVector cX0_tryVector 9 none, Cond.methodLink RX0 115 Lib.Math.abs.name, Cond.static Lib.Math.abs.name, Cond.code Lib.Math.abs.name Lib.Math.abs.code 1 (some .int), Cond.methodLink RX0 84 yX2_expectedX, Cond.instanceMethod yX2_expectedX, Cond.selects RX2 yX2_expectedX yX2_expectedX]
def wsX5_priceOf_r5 : List Cond := [Cond.initialized RX2, Cond.code yX2_expectedX cX2_expectedX 2 (some .int), Cond.fieldLink RX2 15 "GreyReel$Picture" "vx" "[I", Cond.static yX5_isFirstOfBand, Cond.code yX5_isFirstOfBand cX5_isFirstOfBand 1 (some .boolean), Cond.methodLink RX0 88 yX2_expectedY, Cond.instanceMethod yX2_expectedY, Cond.selects RX2 yX2_expectedY yX2_expectedY, Cond.code yX2_expectedY cX2_expectedY 2 (some .int), Cond.fieldLink RX2 18 "GreyReel$Picture" "vy" "[I", Cond.methodLink RX0 120 yX3_differenceMoved, Cond.instanceMethod yX3_differenceMoved, Cond.selects RX3 yX3_differenceMoved yX3_differenceMoved, Cond.code yX3_differenceMoved cX3_differenceMoved 14 (some .int), Cond.methodLink RX3 53 Lib.Math.abs.name, Cond.methodLink RX3 42 yX3_startAhead, Cond.instanceMethod yX3_startAhead, Cond.selects RX3 yX3_startAhead yX3_startAhead, Cond.code yX3_startAhead cX3_startAhead 8 (some .int), Cond.static yX5_firstPointOf, Cond.code yX5_firstPointOf cX5_firstPointOf 1 (some .int), Cond.methodLink RX3 46 yX3_between, Cond.instanceMethod yX3_between, Cond.selects RX3 yX3_between yX3_between]
def wsX5_priceOf_r6 : List Cond := [Cond.code yX3_between cX3_between 6 (some .int), Cond.methodLink RX0 124 yX0_take, Cond.instanceMethod yX0_take, Cond.selects RX0 yX0_take yX0_take, Cond.code yX0_take cX0_take 5 none, Cond.static yX5_isWithin, Cond.code yX5_isWithin cX5_isWithin 3 (some .boolean), Cond.methodLink RX0 65 yX0_tryKind, Cond.instanceMethod yX0_tryKind, Cond.selects RX0 yX0_tryKind yX0_tryKind, Cond.code yX0_tryKind cX0_tryKind 6 none, Cond.methodLink RX0 73 yX3_foretell, Cond.instanceMethod yX3_foretell, Cond.selects RX3 yX3_foretell yX3_foretell, Cond.code yX3_foretell cX3_foretell 5 none, Cond.methodLink RX3 28 yX3_foretellMoved, Cond.instanceMethod yX3_foretellMoved, Cond.selects RX3 yX3_foretellMoved yX3_foretellMoved, Cond.code yX3_foretellMoved cX3_foretellMoved 9 none, Cond.fieldLink RX3 21 "GreyReel$Studio" "foretold" "[I", Cond.methodLink RX3 32 yX3_foretellFlat, Cond.instanceMethod yX3_foretellFlat, Cond.selects RX3 yX3_foretellFlat yX3_foretellFlat, Cond.code yX3_foretellFlat cX3_foretellFlat 6 none]
def wsX5_priceOf_r7 : List Cond := [Cond.fieldLink RX3 18 "GreyReel$Studio" "made" "[I", Cond.methodLink RX3 62 yJ7_fill_53178, Cond.static yJ7_fill_53178, Cond.initialized RJ7, Cond.code yJ7_fill_53178 cJ7_fill_53178 4 none, Cond.methodLink RX3 36 yX3_foretellLeft, Cond.instanceMethod yX3_foretellLeft, Cond.selects RX3 yX3_foretellLeft yX3_foretellLeft, Cond.code yX3_foretellLeft cX3_foretellLeft 4 none, Cond.methodLink RX3 39 yX3_foretellTrend, Cond.instanceMethod yX3_foretellTrend, Cond.selects RX3 yX3_foretellTrend yX3_foretellTrend, Cond.code yX3_foretellTrend cX3_foretellTrend 6 none, Cond.static yX5_clip, Cond.code yX5_clip cX5_clip 1 (some .int), Cond.methodLink RX0 127 yX3_difference, Cond.instanceMethod yX3_difference, Cond.selects RX3 yX3_difference yX3_difference, Cond.code yX3_difference cX3_difference 6 (some .int), Cond.methodLink RX0 80 yX3_measure, Cond.instanceMethod yX3_measure, Cond.selects RX3 yX3_measure yX3_measure, Cond.code yX3_measure cX3_measure 10 (some .boolean), Cond.fieldLink RX3 15 "GreyReel$Studio" "quarterNumbers" "[I"]
def wsX5_priceOf_r8 : List Cond := [Cond.fieldLink RX3 80 "GreyReel$Studio" "ORDER" "[I", Cond.methodLink RX3 71 yX3_placeInBlock, Cond.static yX3_placeInBlock, Cond.code yX3_placeInBlock cX3_placeInBlock 4 (some .int), Cond.methodLink RX3 74 yX3_pointOf, Cond.static yX3_pointOf, Cond.code yX3_pointOf cX3_pointOf 2 (some .int), Cond.methodLink RX3 77 yX3_turnQuarter, Cond.instanceMethod yX3_turnQuarter, Cond.selects RX3 yX3_turnQuarter yX3_turnQuarter, Cond.code yX3_turnQuarter cX3_turnQuarter 2 none, Cond.methodLink RX3 86 yX3_turnFour, Cond.instanceMethod yX3_turnFour, Cond.selects RX3 yX3_turnFour yX3_turnFour, Cond.code yX3_turnFour cX3_turnFour 7 none, Cond.methodLink RX3 83 yX3_levelOf, Cond.static yX3_levelOf, Cond.code yX3_levelOf cX3_levelOf 4 (some .int), Cond.methodLink RX0 103 yX3_makeBlock, Cond.instanceMethod yX3_makeBlock, Cond.selects RX3 yX3_makeBlock yX3_makeBlock, Cond.code yX3_makeBlock cX3_makeBlock 8 none, Cond.methodLink RX0 44 yX3_smooth, Cond.instanceMethod yX3_smooth]
def wsX5_priceOf_r9 : List Cond := [Cond.selects RX3 yX3_smooth yX3_smooth, Cond.code yX3_smooth cX3_smooth 4 none, Cond.methodLink RX3 90 yX3_smoothAcross, Cond.instanceMethod yX3_smoothAcross, Cond.selects RX3 yX3_smoothAcross yX3_smoothAcross, Cond.code yX3_smoothAcross cX3_smoothAcross 10 none, Cond.methodLink RX5 296 yX2_freshBlocks, Cond.instanceMethod yX2_freshBlocks, Cond.selects RX2 yX2_freshBlocks yX2_freshBlocks, Cond.code yX2_freshBlocks cX2_freshBlocks 1 (some .int), Cond.methodLink RX2 64 yX2_blocksOf, Cond.instanceMethod yX2_blocksOf, Cond.selects RX2 yX2_blocksOf yX2_blocksOf, Cond.code yX2_blocksOf cX2_blocksOf 4 (some .int), Cond.fieldLink RX2 9 "GreyReel$Picture" "kind" "[I"]
def wsX5_priceOf : List Cond := .code yX5_priceOf cX5_priceOf 3 (some .int) :: ((wsX5_priceOf_r1 ++ (wsX5_priceOf_r2 ++ (wsX5_priceOf_r3 ++ (wsX5_priceOf_r4 ++ (wsX5_priceOf_r5 ++ (wsX5_priceOf_r6 ++ (wsX5_priceOf_r7 ++ (wsX5_priceOf_r8 ++ wsX5_priceOf_r9)))))))) ++ wsX50 ++ wsX20 ++ wsX00 ++ wsX30 ++ (vx_atS RX5 273 "java/lang/IndexOutOfBoundsException" ["java/lang/RuntimeException", "java/lang/Exception"]).filter goodWord ++ (vx_atS RX5 218 "java/lang/IllegalStateException" ["java/lang/RuntimeException", "java/lang/Exception"]).filter goodWord)
def wsX5_driftNext_r1 : List Cond := [Cond.fieldLink RX5 36 "GreyReel" "viewer" "LGreyReel$Viewer;", Cond.fieldLink RX5 208 "GreyReel$Viewer" "shownPictures" "I", Cond.fieldLink RX5 242 "GreyReel$Viewer" "studio" "LGreyReel$Studio;", Cond.fieldLink RX5 246 "GreyReel$Studio" "made" "[I", Cond.fieldLink RX5 186 "GreyReel$Picture" "result" "[I", Cond.methodLink RX5 211 yX5_pictureOrNull, Cond.instanceMethod yX5_pictureOrNull, Cond.selects RX5 yX5_pictureOrNull yX5_pictureOrNull, Cond.initialized RX5, Cond.code yX5_pictureOrNull cX5_pictureOrNull 2 (some (.object "GreyReel$Picture")), Cond.fieldLink RX5 48 "GreyReel" "coded" "I", Cond.fieldLink RX5 15 "GreyReel" "reel" "[LGreyReel$Picture;", Cond.methodLink RX5 219 yX4_make, Cond.instanceMethod yX4_make, Cond.selects RX4 yX4_make yX4_make, Cond.initialized RX4, Cond.code yX4_make cX4_make 3 none, Cond.fieldLink RX4 12 "GreyReel$Viewer" "studio" "LGreyReel$Studio;", Cond.fieldLink RX4 18 "GreyReel$Viewer" "screen" "[I", Cond.fieldLink RX4 36 "GreyReel$Picture" "got" "[Z", Cond.fieldLink RX4 42 "GreyReel$Picture" "kind" "[I", Cond.fieldLink RX4 45 "GreyReel$Picture" "vx" "[I", Cond.fieldLink RX4 48 "GreyReel$Picture" "vy" "[I", Cond.fieldLink RX4 55 "GreyReel$Picture" "q" "I"]
def wsX5_driftNext_r2 : List Cond := [Cond.fieldLink RX4 58 "GreyReel$Picture" "level" "[I", Cond.fieldLink RX4 69 "GreyReel$Picture" "isSmoothed" "Z", Cond.methodLink RX4 32 yX3_lookAhead, Cond.instanceMethod yX3_lookAhead, Cond.selects RX3 yX3_lookAhead yX3_lookAhead, Cond.initialized RX3, Cond.code yX3_lookAhead cX3_lookAhead 5 none, Cond.fieldLink RX3 11 "GreyReel$Studio" "ahead" "[I", Cond.static yX5_onRow, Cond.code yX5_onRow cX5_onRow 2 (some .int), Cond.methodLink RX5 92 Lib.Math.min.name, Cond.static Lib.Math.min.name, Cond.initialized "java/lang/Math", Cond.code Lib.Math.min.name Lib.Math.min.code 2 (some .int), Cond.methodLink RX5 86 Lib.Math.max.name, Cond.static Lib.Math.max.name, Cond.code Lib.Math.max.name Lib.Math.max.code 2 (some .int), Cond.methodLink RX4 51 yX3_foretell, Cond.instanceMethod yX3_foretell, Cond.selects RX3 yX3_foretell yX3_foretell, Cond.code yX3_foretell cX3_foretell 5 none, Cond.methodLink RX3 28 yX3_foretellMoved, Cond.instanceMethod yX3_foretellMoved, Cond.selects RX3 yX3_foretellMoved yX3_foretellMoved]
def wsX5_driftNext_r3 : List Cond := [Cond.code yX3_foretellMoved cX3_foretellMoved 9 none, Cond.fieldLink RX3 21 "GreyReel$Studio" "foretold" "[I", Cond.methodLink RX3 42 yX3_startAhead, Cond.instanceMethod yX3_startAhead, Cond.selects RX3 yX3_startAhead yX3_startAhead, Cond.code yX3_startAhead cX3_startAhead 8 (some .int), Cond.methodLink RX3 46 yX3_between, Cond.instanceMethod yX3_between, Cond.selects RX3 yX3_between yX3_between, Cond.code yX3_between cX3_between 6 (some .int), Cond.methodLink RX3 32 yX3_foretellFlat, Cond.instanceMethod yX3_foretellFlat, Cond.selects RX3 yX3_foretellFlat yX3_foretellFlat, Cond.code yX3_foretellFlat cX3_foretellFlat 6 none, Cond.fieldLink RX3 18 "GreyReel$Studio" "made" "[I", Cond.static yX5_isFirstOfBand, Cond.code yX5_isFirstOfBand cX5_isFirstOfBand 1 (some .boolean), Cond.static yX5_firstPointOf, Cond.code yX5_firstPointOf cX5_firstPointOf 1 (some .int), Cond.methodLink RX3 62 yJ7_fill_53178, Cond.static yJ7_fill_53178, Cond.initialized RJ7, Cond.code yJ7_fill_53178 cJ7_fill_53178 4 none, Cond.methodLink RX3 36 yX3_foretellLeft]
def wsX5_driftNext_r4 : List Cond := [Cond.instanceMethod yX3_foretellLeft, Cond.selects RX3 yX3_foretellLeft yX3_foretellLeft, Cond.code yX3_foretellLeft cX3_foretellLeft 4 none, Cond.methodLink RX3 39 yX3_foretellTrend, Cond.instanceMethod yX3_foretellTrend, Cond.selects RX3 yX3_foretellTrend yX3_foretellTrend, Cond.code yX3_foretellTrend cX3_foretellTrend 6 none, Cond.static yX5_clip, Cond.code yX5_clip cX5_clip 1 (some .int), Cond.methodLink RX4 61 yX3_makeBlock, Cond.instanceMethod yX3_makeBlock, Cond.selects RX3 yX3_makeBlock yX3_makeBlock, Cond.code yX3_makeBlock cX3_makeBlock 8 none, Cond.fieldLink RX3 15 "GreyReel$Studio" "quarterNumbers" "[I", Cond.fieldLink RX3 80 "GreyReel$Studio" "ORDER" "[I", Cond.methodLink RX3 77 yX3_turnQuarter, Cond.instanceMethod yX3_turnQuarter, Cond.selects RX3 yX3_turnQuarter yX3_turnQuarter, Cond.code yX3_turnQuarter cX3_turnQuarter 2 none, Cond.methodLink RX3 86 yX3_turnFour, Cond.instanceMethod yX3_turnFour, Cond.selects RX3 yX3_turnFour yX3_turnFour, Cond.code yX3_turnFour cX3_turnFour 7 none, Cond.methodLink RX3 71 yX3_placeInBlock]
def wsX5_driftNext_r5 : List Cond := [Cond.static yX3_placeInBlock, Cond.code yX3_placeInBlock cX3_placeInBlock 4 (some .int), Cond.methodLink RX3 74 yX3_pointOf, Cond.static yX3_pointOf, Cond.code yX3_pointOf cX3_pointOf 2 (some .int), Cond.methodLink RX4 65 yX4_conceal, Cond.instanceMethod yX4_conceal, Cond.selects RX4 yX4_conceal yX4_conceal, Cond.code yX4_conceal cX4_conceal 7 none, Cond.methodLink RX4 81 yX3_makeForetold, Cond.instanceMethod yX3_makeForetold, Cond.selects RX3 yX3_makeForetold yX3_makeForetold, Cond.code yX3_makeForetold cX3_makeForetold 3 none, Cond.methodLink RX4 73 yX2_bandsGot, Cond.instanceMethod yX2_bandsGot, Cond.selects RX2 yX2_bandsGot yX2_bandsGot, Cond.initialized RX2, Cond.code yX2_bandsGot cX2_bandsGot 3 (some .int), Cond.fieldLink RX2 33 "GreyReel$Picture" "got" "[Z", Cond.methodLink RX4 77 yX3_smooth, Cond.instanceMethod yX3_smooth, Cond.selects RX3 yX3_smooth yX3_smooth, Cond.code yX3_smooth cX3_smooth 4 none, Cond.methodLink RX3 90 yX3_smoothAcross]
def wsX5_driftNext_r6 : List Cond := [Cond.instanceMethod yX3_smoothAcross, Cond.selects RX3 yX3_smoothAcross yX3_smoothAcross, Cond.code yX3_smoothAcross cX3_smoothAcross 10 none, Cond.methodLink RX3 53 Lib.Math.abs.name, Cond.static Lib.Math.abs.name, Cond.code Lib.Math.abs.name Lib.Math.abs.code 1 (some .int), Cond.methodLink RX5 231 yX5_distance, Cond.static yX5_distance, Cond.code yX5_distance cX5_distance 4 (some .int), Cond.methodLink RX5 274 Lib.Math.abs.name]
def wsX5_driftNext : List Cond := .code yX5_driftNext cX5_driftNext 2 (some .int) :: ((wsX5_driftNext_r1 ++ (wsX5_driftNext_r2 ++ (wsX5_driftNext_r3 ++ (wsX5_driftNext_r4 ++ (wsX5_driftNext_r5 ++ wsX5_driftNext_r6))))) ++ wsX50 ++ wsX40 ++ wsX30 ++ wsX20)
def wsX5_bytesOfAll_r1 : List Cond := [Cond.fieldLink RX5 48 "GreyReel" "coded" "I", Cond.methodLink RX5 161 yX5_pictureAt, Cond.instanceMethod yX5_pictureAt, Cond.selects RX5 yX5_pictureAt yX5_pictureAt, Cond.initialized RX5, Cond.code yX5_pictureAt cX5_pictureAt 3 (some (.object "GreyReel$Picture")), Cond.classLink RX5 269 "java/lang/IndexOutOfBoundsException", Cond.initialized "java/lang/IndexOutOfBoundsException", Cond.methodLink RX5 211 yX5_pictureOrNull, Cond.instanceMethod yX5_pictureOrNull, Cond.selects RX5 yX5_pictureOrNull yX5_pictureOrNull, Cond.code yX5_pictureOrNull cX5_pictureOrNull 2 (some (.object "GreyReel$Picture")), Cond.fieldLink RX5 15 "GreyReel" "reel" "[LGreyReel$Picture;", Cond.methodLink RX5 144 yX2_bytesInAll, Cond.instanceMethod yX2_bytesInAll, Cond.selects RX2 yX2_bytesInAll yX2_bytesInAll, Cond.initialized RX2, Cond.code yX2_bytesInAll cX2_bytesInAll 1 (some .int), Cond.methodLink RX2 61 yX2_firstByteOf, Cond.instanceMethod yX2_firstByteOf, Cond.selects RX2 yX2_firstByteOf yX2_firstByteOf, Cond.code yX2_firstByteOf cX2_firstByteOf 4 (some .int), Cond.methodLink RX2 57 yX2_bytesIn, Cond.instanceMethod yX2_bytesIn]
def wsX5_bytesOfAll_r2 : List Cond := [Cond.selects RX2 yX2_bytesIn yX2_bytesIn, Cond.code yX2_bytesIn cX2_bytesIn 2 (some .int), Cond.fieldLink RX2 30 "GreyReel$Picture" "usedBits" "[I"]
def wsX5_bytesOfAll : List Cond := .code yX5_bytesOfAll cX5_bytesOfAll 3 (some .int) :: ((wsX5_bytesOfAll_r1 ++ wsX5_bytesOfAll_r2) ++ wsX50 ++ wsX20 ++ (vx_atS RX5 273 "java/lang/IndexOutOfBoundsException" ["java/lang/RuntimeException", "java/lang/Exception"]).filter goodWord)
def wsX5_meanError : List Cond := .code yX5_meanError cX5_meanError 4 (some .double) :: ([.fieldLink RX5 48 "GreyReel" "coded" "I", .fieldLink RX5 189 "GreyReel$Picture" "error" "I", .methodLink RX5 161 yX5_pictureAt, .instanceMethod yX5_pictureAt, .selects RX5 yX5_pictureAt yX5_pictureAt, .initialized RX5, .code yX5_pictureAt cX5_pictureAt 3 (some (.object "GreyReel$Picture")), .classLink RX5 269 "java/lang/IndexOutOfBoundsException", .initialized "java/lang/IndexOutOfBoundsException", .methodLink RX5 211 yX5_pictureOrNull, .instanceMethod yX5_pictureOrNull, .selects RX5 yX5_pictureOrNull yX5_pictureOrNull, .code yX5_pictureOrNull cX5_pictureOrNull 2 (some (.object "GreyReel$Picture")), .fieldLink RX5 15 "GreyReel" "reel" "[LGreyReel$Picture;"] ++ wsX50 ++ wsX20 ++ (vx_atS RX5 273 "java/lang/IndexOutOfBoundsException" ["java/lang/RuntimeException", "java/lang/Exception"]).filter goodWord)
def wsX5_digestPoints : List Cond := .code yX5_digestPoints cX5_digestPoints 6 (some .long) :: ([.constantLong RX5 253 (31)])
def wsX5_digest_r1 : List Cond := [Cond.constantLong RX5 251 (58019), Cond.constantLong RX5 253 (31), Cond.fieldLink RX5 48 "GreyReel" "coded" "I", Cond.fieldLink RX5 55 "GreyReel" "nextStep" "I", Cond.fieldLink RX5 36 "GreyReel" "viewer" "LGreyReel$Viewer;", Cond.fieldLink RX5 208 "GreyReel$Viewer" "shownPictures" "I", Cond.fieldLink RX5 9 "GreyReel" "canvas" "[I", Cond.fieldLink RX5 186 "GreyReel$Picture" "result" "[I", Cond.fieldLink RX5 228 "GreyReel$Viewer" "screen" "[I", Cond.methodLink RX5 255 yX5_drift, Cond.instanceMethod yX5_drift, Cond.selects RX5 yX5_drift yX5_drift, Cond.initialized RX5, Cond.code yX5_drift cX5_drift 2 (some .int), Cond.methodLink RX5 211 yX5_pictureOrNull, Cond.instanceMethod yX5_pictureOrNull, Cond.selects RX5 yX5_pictureOrNull yX5_pictureOrNull, Cond.code yX5_pictureOrNull cX5_pictureOrNull 2 (some (.object "GreyReel$Picture")), Cond.fieldLink RX5 15 "GreyReel" "reel" "[LGreyReel$Picture;", Cond.methodLink RX5 231 yX5_distance, Cond.static yX5_distance, Cond.code yX5_distance cX5_distance 4 (some .int), Cond.methodLink RX5 274 Lib.Math.abs.name, Cond.static Lib.Math.abs.name]
def wsX5_digest_r2 : List Cond := [Cond.initialized "java/lang/Math", Cond.code Lib.Math.abs.name Lib.Math.abs.code 1 (some .int), Cond.methodLink RX5 258 yX5_bytesOfAll, Cond.instanceMethod yX5_bytesOfAll, Cond.selects RX5 yX5_bytesOfAll yX5_bytesOfAll, Cond.code yX5_bytesOfAll cX5_bytesOfAll 3 (some .int), Cond.methodLink RX5 161 yX5_pictureAt, Cond.instanceMethod yX5_pictureAt, Cond.selects RX5 yX5_pictureAt yX5_pictureAt, Cond.code yX5_pictureAt cX5_pictureAt 3 (some (.object "GreyReel$Picture")), Cond.classLink RX5 269 "java/lang/IndexOutOfBoundsException", Cond.initialized "java/lang/IndexOutOfBoundsException", Cond.methodLink RX5 144 yX2_bytesInAll, Cond.instanceMethod yX2_bytesInAll, Cond.selects RX2 yX2_bytesInAll yX2_bytesInAll, Cond.initialized RX2, Cond.code yX2_bytesInAll cX2_bytesInAll 1 (some .int), Cond.methodLink RX2 61 yX2_firstByteOf, Cond.instanceMethod yX2_firstByteOf, Cond.selects RX2 yX2_firstByteOf yX2_firstByteOf, Cond.code yX2_firstByteOf cX2_firstByteOf 4 (some .int), Cond.methodLink RX2 57 yX2_bytesIn, Cond.instanceMethod yX2_bytesIn, Cond.selects RX2 yX2_bytesIn yX2_bytesIn]
def wsX5_digest_r3 : List Cond := [Cond.code yX2_bytesIn cX2_bytesIn 2 (some .int), Cond.fieldLink RX2 30 "GreyReel$Picture" "usedBits" "[I", Cond.methodLink RX5 261 yX2_digestOn, Cond.instanceMethod yX2_digestOn, Cond.selects RX2 yX2_digestOn yX2_digestOn, Cond.code yX2_digestOn cX2_digestOn 6 (some .long), Cond.constantLong RX2 71 (31), Cond.fieldLink RX2 50 "GreyReel$Picture" "isKeyPicture" "Z", Cond.fieldLink RX2 44 "GreyReel$Picture" "q" "I", Cond.fieldLink RX2 47 "GreyReel$Picture" "error" "I", Cond.fieldLink RX2 9 "GreyReel$Picture" "kind" "[I", Cond.fieldLink RX2 15 "GreyReel$Picture" "vx" "[I", Cond.fieldLink RX2 18 "GreyReel$Picture" "vy" "[I", Cond.methodLink RX2 73 yX2_levelsNotZero, Cond.instanceMethod yX2_levelsNotZero, Cond.selects RX2 yX2_levelsNotZero yX2_levelsNotZero, Cond.code yX2_levelsNotZero cX2_levelsNotZero 4 (some .int), Cond.fieldLink RX2 24 "GreyReel$Picture" "level" "[I", Cond.methodLink RX2 76 yX2_digestPacket, Cond.instanceMethod yX2_digestPacket, Cond.selects RX2 yX2_digestPacket yX2_digestPacket, Cond.code yX2_digestPacket cX2_digestPacket 8 (some .long), Cond.fieldLink RX2 33 "GreyReel$Picture" "got" "[Z", Cond.fieldLink RX2 37 "GreyReel$Picture" "row" "[I"]
def wsX5_digest_r4 : List Cond := [Cond.methodLink RX5 265 yX5_digestPoints, Cond.static yX5_digestPoints, Cond.code yX5_digestPoints cX5_digestPoints 6 (some .long)]
def wsX5_digest : List Cond := .code yX5_digest cX5_digest 4 (some .long) :: ((wsX5_digest_r1 ++ (wsX5_digest_r2 ++ (wsX5_digest_r3 ++ wsX5_digest_r4))) ++ wsX50 ++ wsX40 ++ wsX20 ++ (vx_atS RX5 273 "java/lang/IndexOutOfBoundsException" ["java/lang/RuntimeException", "java/lang/Exception"]).filter goodWord)
def wsJ9_abs_0f7a4 : List Cond := .code yJ9_abs_0f7a4 cJ9_abs_0f7a4 1 (some .int) :: ([])
def wsJ9_max_7cf53 : List Cond := .code yJ9_max_7cf53 cJ9_max_7cf53 2 (some .int) :: ([])
def wsJ9_min_7cf53 : List Cond := .code yJ9_min_7cf53 cJ9_min_7cf53 2 (some .int) :: ([])
def wsL_below : List Cond := .code yL_below cL_below 2 (some .int) :: ([.constant RL 7 (2147483647)])
def wsL_cell : List Cond := .code yL_cell cL_cell 2 (some .int) :: ([.constant RL 8 (790386105)])
def wsL_paint_r1 : List Cond := [Cond.constant RL 25 (65536), Cond.methodLink RL 9 yL_below, Cond.static yL_below, Cond.initialized RL, Cond.code yL_below cL_below 2 (some .int), Cond.constant RL 7 (2147483647), Cond.methodLink RL 15 yX5_box, Cond.instanceMethod yX5_box, Cond.selects RX5 yX5_box yX5_box, Cond.initialized RX5, Cond.code yX5_box cX5_box 9 (some .int), Cond.classLink RX5 75 "java/lang/IllegalArgumentException", Cond.initialized "java/lang/IllegalArgumentException", Cond.methodLink RX5 86 Lib.Math.max.name, Cond.static Lib.Math.max.name, Cond.initialized "java/lang/Math", Cond.code Lib.Math.max.name Lib.Math.max.code 2 (some .int), Cond.methodLink RX5 92 Lib.Math.min.name, Cond.static Lib.Math.min.name, Cond.code Lib.Math.min.name Lib.Math.min.code 2 (some .int), Cond.fieldLink RX5 9 "GreyReel" "canvas" "[I", Cond.methodLink RX5 71 yX5_isWithin, Cond.static yX5_isWithin, Cond.code yX5_isWithin cX5_isWithin 3 (some .boolean)]
def wsL_paint_r2 : List Cond := [Cond.methodLink RL 21 yX5_ramp, Cond.instanceMethod yX5_ramp, Cond.selects RX5 yX5_ramp yX5_ramp, Cond.code yX5_ramp cX5_ramp 7 (some .int), Cond.methodLink RX5 99 yX5_clip, Cond.static yX5_clip, Cond.code yX5_clip cX5_clip 1 (some .int), Cond.methodLink RL 26 yX5_noise, Cond.instanceMethod yX5_noise, Cond.selects RX5 yX5_noise yX5_noise, Cond.code yX5_noise cX5_noise 5 (some .int), Cond.constant RX5 103 (65535), Cond.constant RX5 108 (65536), Cond.methodLink RL 29 yX5_shift, Cond.instanceMethod yX5_shift, Cond.selects RX5 yX5_shift yX5_shift, Cond.code yX5_shift cX5_shift 7 (some .int), Cond.fieldLink RX5 40 "GreyReel" "canvasBefore" "[I", Cond.methodLink RX5 111 arraycopyName, Cond.native arraycopyName, Cond.static arraycopyName, Cond.initialized "java/lang/System", Cond.methodLink RX5 117 yX5_onRow, Cond.static yX5_onRow]
def wsL_paint_r3 : List Cond := [Cond.code yX5_onRow cX5_onRow 2 (some .int), Cond.methodLink RL 32 yX5_fill, Cond.instanceMethod yX5_fill, Cond.selects RX5 yX5_fill yX5_fill, Cond.code yX5_fill cX5_fill 4 (some .int)]
def wsL_paint : List Cond := .code yL_paint cL_paint 3 none :: ((wsL_paint_r1 ++ (wsL_paint_r2 ++ wsL_paint_r3)) ++ wsX50 ++ (vx_atS RX5 79 "java/lang/IllegalArgumentException" ["java/lang/RuntimeException", "java/lang/Exception"]).filter goodWord)
def wsL_isSound_r1 : List Cond := [Cond.methodLink RL 52 Lib.Math.abs.name, Cond.static Lib.Math.abs.name, Cond.initialized "java/lang/Math", Cond.code Lib.Math.abs.name Lib.Math.abs.code 1 (some .int), Cond.methodLink RL 36 yX5_kindOf, Cond.instanceMethod yX5_kindOf, Cond.selects RX5 yX5_kindOf yX5_kindOf, Cond.initialized RX5, Cond.code yX5_kindOf cX5_kindOf 3 (some .int), Cond.fieldLink RX5 168 "GreyReel$Picture" "kind" "[I", Cond.methodLink RX5 161 yX5_pictureAt, Cond.instanceMethod yX5_pictureAt, Cond.selects RX5 yX5_pictureAt yX5_pictureAt, Cond.code yX5_pictureAt cX5_pictureAt 3 (some (.object "GreyReel$Picture")), Cond.classLink RX5 269 "java/lang/IndexOutOfBoundsException", Cond.initialized "java/lang/IndexOutOfBoundsException", Cond.methodLink RX5 211 yX5_pictureOrNull, Cond.instanceMethod yX5_pictureOrNull, Cond.selects RX5 yX5_pictureOrNull yX5_pictureOrNull, Cond.code yX5_pictureOrNull cX5_pictureOrNull 2 (some (.object "GreyReel$Picture")), Cond.fieldLink RX5 48 "GreyReel" "coded" "I", Cond.fieldLink RX5 15 "GreyReel" "reel" "[LGreyReel$Picture;", Cond.methodLink RX5 171 yX5_placeIn, Cond.static yX5_placeIn]
def wsL_isSound_r2 : List Cond := [Cond.code yX5_placeIn cX5_placeIn 2 (some .int), Cond.methodLink RL 39 yX5_levels, Cond.instanceMethod yX5_levels, Cond.selects RX5 yX5_levels yX5_levels, Cond.code yX5_levels cX5_levels 3 (some .int), Cond.methodLink RX5 180 yX2_levelsNotZero, Cond.instanceMethod yX2_levelsNotZero, Cond.selects RX2 yX2_levelsNotZero yX2_levelsNotZero, Cond.initialized RX2, Cond.code yX2_levelsNotZero cX2_levelsNotZero 4 (some .int), Cond.fieldLink RX2 24 "GreyReel$Picture" "level" "[I", Cond.methodLink RL 42 yX5_isKey, Cond.instanceMethod yX5_isKey, Cond.selects RX5 yX5_isKey yX5_isKey, Cond.code yX5_isKey cX5_isKey 2 (some .boolean), Cond.fieldLink RX5 155 "GreyReel$Picture" "isKeyPicture" "Z", Cond.methodLink RL 46 yX5_vectorX, Cond.instanceMethod yX5_vectorX, Cond.selects RX5 yX5_vectorX yX5_vectorX, Cond.code yX5_vectorX cX5_vectorX 3 (some .int), Cond.fieldLink RX5 174 "GreyReel$Picture" "vx" "[I", Cond.methodLink RL 49 yX5_vectorY, Cond.instanceMethod yX5_vectorY, Cond.selects RX5 yX5_vectorY yX5_vectorY]
def wsL_isSound_r3 : List Cond := [Cond.code yX5_vectorY cX5_vectorY 3 (some .int), Cond.fieldLink RX5 177 "GreyReel$Picture" "vy" "[I", Cond.methodLink RL 57 yX5_bits, Cond.instanceMethod yX5_bits, Cond.selects RX5 yX5_bits yX5_bits, Cond.code yX5_bits cX5_bits 3 (some .int), Cond.fieldLink RX5 195 "GreyReel$Picture" "usedBits" "[I", Cond.methodLink RL 60 yX5_bytes, Cond.instanceMethod yX5_bytes, Cond.selects RX5 yX5_bytes yX5_bytes, Cond.code yX5_bytes cX5_bytes 3 (some .int), Cond.methodLink RX5 192 yX2_bytesIn, Cond.instanceMethod yX2_bytesIn, Cond.selects RX2 yX2_bytesIn yX2_bytesIn, Cond.code yX2_bytesIn cX2_bytesIn 2 (some .int), Cond.fieldLink RX2 30 "GreyReel$Picture" "usedBits" "[I", Cond.methodLink RL 63 yX5_byteAt, Cond.instanceMethod yX5_byteAt, Cond.selects RX5 yX5_byteAt yX5_byteAt, Cond.code yX5_byteAt cX5_byteAt 7 (some .int), Cond.fieldLink RX5 152 "GreyReel$Picture" "row" "[I", Cond.methodLink RX5 198 yX2_firstByteOf, Cond.instanceMethod yX2_firstByteOf, Cond.selects RX2 yX2_firstByteOf yX2_firstByteOf]
def wsL_isSound_r4 : List Cond := [Cond.code yX2_firstByteOf cX2_firstByteOf 4 (some .int), Cond.methodLink RX2 57 yX2_bytesIn, Cond.methodLink RL 66 yX5_errorOf, Cond.instanceMethod yX5_errorOf, Cond.selects RX5 yX5_errorOf yX5_errorOf, Cond.code yX5_errorOf cX5_errorOf 2 (some .int), Cond.fieldLink RX5 189 "GreyReel$Picture" "error" "I"]
def wsL_isSound : List Cond := .code yL_isSound cL_isSound 6 (some .boolean) :: ((wsL_isSound_r1 ++ (wsL_isSound_r2 ++ (wsL_isSound_r3 ++ wsL_isSound_r4))) ++ wsX20 ++ wsX50 ++ (vx_atS RX5 273 "java/lang/IndexOutOfBoundsException" ["java/lang/RuntimeException", "java/lang/Exception"]).filter goodWord)
def wsL_law0_r1 : List Cond := [Cond.classLink RL 16 RX5, Cond.instantiable RX5 14, Cond.initialized RX5, Cond.methodLink RL 69 yX5_init, Cond.instanceMethod yX5_init, Cond.code yX5_init cX5_init 1 none, Cond.methodLink RX5 3 objectInit, Cond.instanceMethod objectInit, Cond.code objectInit ⟨#[0xb1]⟩ 1 none, Cond.arrayClass .int, Cond.fieldLink RX5 9 "GreyReel" "canvas" "[I", Cond.classLink RX5 13 RX2, Cond.fieldLink RX5 15 "GreyReel" "reel" "[LGreyReel$Picture;", Cond.classLink RX5 19 RX0, Cond.instantiable RX0 5, Cond.initialized RX0, Cond.fieldLink RX5 22 "GreyReel" "coder" "LGreyReel$Coder;", Cond.classLink RX5 26 RX1, Cond.instantiable RX1 4, Cond.initialized RX1, Cond.fieldLink RX5 29 "GreyReel" "writer" "LGreyReel$PacketWriter;", Cond.classLink RX5 33 RX4, Cond.instantiable RX4 3, Cond.initialized RX4]
def wsL_law0_r2 : List Cond := [Cond.fieldLink RX5 36 "GreyReel" "viewer" "LGreyReel$Viewer;", Cond.fieldLink RX5 40 "GreyReel" "canvasBefore" "[I", Cond.instantiable RX2 14, Cond.initialized RX2, Cond.fieldLink RX5 44 "GreyReel" "draft" "LGreyReel$Picture;", Cond.fieldLink RX5 48 "GreyReel" "coded" "I", Cond.fieldLink RX5 52 "GreyReel" "deltasBehindKey" "I", Cond.fieldLink RX5 55 "GreyReel" "nextStep" "I", Cond.fieldLink RX5 58 "GreyReel" "bytesWanted" "I", Cond.fieldLink RX5 61 "GreyReel" "keyInterval" "I", Cond.fieldLink RX5 64 "GreyReel" "isSmoothing" "Z", Cond.fieldLink RX5 68 "GreyReel" "isKeyAsked" "Z", Cond.instanceMethod yX0_init, Cond.code yX0_init cX0_init 1 none, Cond.methodLink RX0 3 objectInit, Cond.classLink RX0 9 RX3, Cond.instantiable RX3 4, Cond.initialized RX3, Cond.fieldLink RX0 12 "GreyReel$Coder" "studio" "LGreyReel$Studio;", Cond.fieldLink RX0 18 "GreyReel$Coder" "bestKind" "I", Cond.fieldLink RX0 22 "GreyReel$Coder" "bestX" "I", Cond.fieldLink RX0 25 "GreyReel$Coder" "bestY" "I", Cond.fieldLink RX0 28 "GreyReel$Coder" "bestPrice" "I", Cond.instanceMethod yX3_init]
def wsL_law0_r3 : List Cond := [Cond.code yX3_init cX3_init 1 none, Cond.methodLink RX3 5 objectInit, Cond.fieldLink RX3 11 "GreyReel$Studio" "ahead" "[I", Cond.fieldLink RX3 15 "GreyReel$Studio" "quarterNumbers" "[I", Cond.fieldLink RX3 18 "GreyReel$Studio" "made" "[I", Cond.fieldLink RX3 21 "GreyReel$Studio" "foretold" "[I", Cond.instanceMethod yX1_init, Cond.code yX1_init cX1_init 1 none, Cond.methodLink RX1 3 objectInit, Cond.fieldLink RX1 11 "GreyReel$PacketWriter" "row" "[I", Cond.fieldLink RX1 15 "GreyReel$PacketWriter" "kindRow" "[I", Cond.fieldLink RX1 18 "GreyReel$PacketWriter" "mean" "[I", Cond.fieldLink RX1 21 "GreyReel$PacketWriter" "bitsWritten" "I", Cond.methodLink RX5 35 yX4_init, Cond.instanceMethod yX4_init, Cond.code yX4_init cX4_init 1 none, Cond.methodLink RX4 3 objectInit, Cond.classLink RX4 9 RX3, Cond.fieldLink RX4 12 "GreyReel$Viewer" "studio" "LGreyReel$Studio;", Cond.fieldLink RX4 18 "GreyReel$Viewer" "screen" "[I", Cond.fieldLink RX4 22 "GreyReel$Viewer" "shownPictures" "I", Cond.methodLink RX4 26 yJ7_fill_53178, Cond.static yJ7_fill_53178, Cond.initialized RJ7]
def wsL_law0_r4 : List Cond := [Cond.code yJ7_fill_53178 cJ7_fill_53178 4 none, Cond.instanceMethod yX2_init, Cond.code yX2_init cX2_init 1 none, Cond.methodLink RX2 3 objectInit, Cond.fieldLink RX2 9 "GreyReel$Picture" "kind" "[I", Cond.fieldLink RX2 15 "GreyReel$Picture" "vx" "[I", Cond.fieldLink RX2 18 "GreyReel$Picture" "vy" "[I", Cond.fieldLink RX2 21 "GreyReel$Picture" "price" "[I", Cond.fieldLink RX2 24 "GreyReel$Picture" "level" "[I", Cond.fieldLink RX2 27 "GreyReel$Picture" "result" "[I", Cond.fieldLink RX2 30 "GreyReel$Picture" "usedBits" "[I", Cond.arrayClass .boolean, Cond.fieldLink RX2 33 "GreyReel$Picture" "got" "[Z", Cond.fieldLink RX2 37 "GreyReel$Picture" "row" "[I", Cond.fieldLink RX2 40 "GreyReel$Picture" "number" "I", Cond.fieldLink RX2 44 "GreyReel$Picture" "q" "I", Cond.fieldLink RX2 47 "GreyReel$Picture" "error" "I", Cond.fieldLink RX2 50 "GreyReel$Picture" "isKeyPicture" "Z", Cond.fieldLink RX2 54 "GreyReel$Picture" "isSmoothed" "Z", Cond.methodLink RL 70 yL_cell, Cond.static yL_cell, Cond.initialized RL, Cond.code yL_cell cL_cell 2 (some .int), Cond.constant RL 8 (790386105)]
def wsL_law0_r5 : List Cond := [Cond.methodLink RL 9 yL_below, Cond.static yL_below, Cond.code yL_below cL_below 2 (some .int), Cond.constant RL 7 (2147483647), Cond.methodLink RL 74 yL_paint, Cond.static yL_paint, Cond.code yL_paint cL_paint 3 none, Cond.constant RL 25 (65536), Cond.methodLink RL 15 yX5_box, Cond.instanceMethod yX5_box, Cond.selects RX5 yX5_box yX5_box, Cond.code yX5_box cX5_box 9 (some .int), Cond.classLink RX5 75 "java/lang/IllegalArgumentException", Cond.initialized "java/lang/IllegalArgumentException", Cond.methodLink RX5 86 Lib.Math.max.name, Cond.static Lib.Math.max.name, Cond.initialized "java/lang/Math", Cond.code Lib.Math.max.name Lib.Math.max.code 2 (some .int), Cond.methodLink RX5 92 Lib.Math.min.name, Cond.static Lib.Math.min.name, Cond.code Lib.Math.min.name Lib.Math.min.code 2 (some .int), Cond.methodLink RX5 71 yX5_isWithin, Cond.static yX5_isWithin, Cond.code yX5_isWithin cX5_isWithin 3 (some .boolean)]
def wsL_law0_r6 : List Cond := [Cond.methodLink RL 21 yX5_ramp, Cond.instanceMethod yX5_ramp, Cond.selects RX5 yX5_ramp yX5_ramp, Cond.code yX5_ramp cX5_ramp 7 (some .int), Cond.methodLink RX5 99 yX5_clip, Cond.static yX5_clip, Cond.code yX5_clip cX5_clip 1 (some .int), Cond.methodLink RL 26 yX5_noise, Cond.instanceMethod yX5_noise, Cond.selects RX5 yX5_noise yX5_noise, Cond.code yX5_noise cX5_noise 5 (some .int), Cond.constant RX5 103 (65535), Cond.constant RX5 108 (65536), Cond.methodLink RL 29 yX5_shift, Cond.instanceMethod yX5_shift, Cond.selects RX5 yX5_shift yX5_shift, Cond.code yX5_shift cX5_shift 7 (some .int), Cond.methodLink RX5 111 arraycopyName, Cond.native arraycopyName, Cond.static arraycopyName, Cond.initialized "java/lang/System", Cond.methodLink RX5 117 yX5_onRow, Cond.static yX5_onRow, Cond.code yX5_onRow cX5_onRow 2 (some .int)]
def wsL_law0_r7 : List Cond := [Cond.methodLink RL 32 yX5_fill, Cond.instanceMethod yX5_fill, Cond.selects RX5 yX5_fill yX5_fill, Cond.code yX5_fill cX5_fill 4 (some .int), Cond.methodLink RL 78 yX5_setStep, Cond.instanceMethod yX5_setStep, Cond.selects RX5 yX5_setStep yX5_setStep, Cond.code yX5_setStep cX5_setStep 3 (some .int), Cond.methodLink RL 81 yX5_setSmoothing, Cond.instanceMethod yX5_setSmoothing, Cond.selects RX5 yX5_setSmoothing yX5_setSmoothing, Cond.code yX5_setSmoothing cX5_setSmoothing 3 (some .boolean), Cond.methodLink RL 85 yX5_askKey, Cond.instanceMethod yX5_askKey, Cond.selects RX5 yX5_askKey yX5_askKey, Cond.code yX5_askKey cX5_askKey 2 (some .boolean), Cond.methodLink RX5 129 yX5_isKeyDue, Cond.instanceMethod yX5_isKeyDue, Cond.selects RX5 yX5_isKeyDue yX5_isKeyDue, Cond.code yX5_isKeyDue cX5_isKeyDue 1 (some .boolean), Cond.methodLink RL 89 yX5_setTarget, Cond.instanceMethod yX5_setTarget, Cond.selects RX5 yX5_setTarget yX5_setTarget, Cond.code yX5_setTarget cX5_setTarget 3 (some .int)]
def wsL_law0_r8 : List Cond := [Cond.methodLink RL 92 yX5_step, Cond.instanceMethod yX5_step, Cond.selects RX5 yX5_step yX5_step, Cond.code yX5_step cX5_step 1 (some .int), Cond.methodLink RL 96 yX5_bytesWith, Cond.instanceMethod yX5_bytesWith, Cond.selects RX5 yX5_bytesWith yX5_bytesWith, Cond.code yX5_bytesWith cX5_bytesWith 2 (some .int), Cond.methodLink RX5 133 yX5_refuseIfFull, Cond.instanceMethod yX5_refuseIfFull, Cond.selects RX5 yX5_refuseIfFull yX5_refuseIfFull, Cond.code yX5_refuseIfFull cX5_refuseIfFull 1 none, Cond.classLink RX5 214 "java/lang/IllegalStateException", Cond.initialized "java/lang/IllegalStateException", Cond.methodLink RX5 136 yX5_draftNext, Cond.instanceMethod yX5_draftNext, Cond.selects RX5 yX5_draftNext yX5_draftNext, Cond.code yX5_draftNext cX5_draftNext 3 none, Cond.fieldLink RX5 281 "GreyReel$Coder" "studio" "LGreyReel$Studio;", Cond.fieldLink RX5 186 "GreyReel$Picture" "result" "[I", Cond.fieldLink RX5 286 "GreyReel$Picture" "number" "I", Cond.fieldLink RX5 165 "GreyReel$Picture" "q" "I", Cond.fieldLink RX5 289 "GreyReel$Picture" "isSmoothed" "Z", Cond.fieldLink RX5 155 "GreyReel$Picture" "isKeyPicture" "Z"]
def wsL_law0_r9 : List Cond := [Cond.methodLink RX5 211 yX5_pictureOrNull, Cond.instanceMethod yX5_pictureOrNull, Cond.selects RX5 yX5_pictureOrNull yX5_pictureOrNull, Cond.code yX5_pictureOrNull cX5_pictureOrNull 2 (some (.object "GreyReel$Picture")), Cond.methodLink RX5 282 yX3_lookAhead, Cond.instanceMethod yX3_lookAhead, Cond.selects RX3 yX3_lookAhead yX3_lookAhead, Cond.code yX3_lookAhead cX3_lookAhead 5 none, Cond.methodLink RX5 292 yX0_codeAll, Cond.instanceMethod yX0_codeAll, Cond.selects RX0 yX0_codeAll yX0_codeAll, Cond.code yX0_codeAll cX0_codeAll 6 none, Cond.fieldLink RX0 35 "GreyReel$Picture" "isSmoothed" "Z", Cond.fieldLink RX0 41 "GreyReel$Picture" "q" "I", Cond.fieldLink RX0 48 "GreyReel$Studio" "made" "[I", Cond.fieldLink RX0 52 "GreyReel$Picture" "result" "[I", Cond.fieldLink RX0 55 "GreyReel$Picture" "error" "I", Cond.methodLink RX0 31 yX0_codeBlock, Cond.instanceMethod yX0_codeBlock, Cond.selects RX0 yX0_codeBlock yX0_codeBlock, Cond.code yX0_codeBlock cX0_codeBlock 7 none, Cond.constant RX0 58 (1048576), Cond.fieldLink RX0 59 "GreyReel$Picture" "isKeyPicture" "Z", Cond.fieldLink RX0 77 "GreyReel$Picture" "level" "[I"]
def wsL_law0_r10 : List Cond := [Cond.fieldLink RX0 91 "GreyReel$Picture" "kind" "[I", Cond.fieldLink RX0 94 "GreyReel$Picture" "vx" "[I", Cond.fieldLink RX0 97 "GreyReel$Picture" "vy" "[I", Cond.fieldLink RX0 100 "GreyReel$Picture" "price" "[I", Cond.methodLink RX0 62 yX0_seekVector, Cond.instanceMethod yX0_seekVector, Cond.selects RX0 yX0_seekVector yX0_seekVector, Cond.code yX0_seekVector cX0_seekVector 8 none, Cond.methodLink RX0 107 yX0_tryVector, Cond.instanceMethod yX0_tryVector, Cond.selects RX0 yX0_tryVector yX0_tryVector, Cond.code yX0_tryVector cX0_tryVector 9 none, Cond.methodLink RX0 115 Lib.Math.abs.name, Cond.static Lib.Math.abs.name, Cond.code Lib.Math.abs.name Lib.Math.abs.code 1 (some .int), Cond.methodLink RX0 84 yX2_expectedX, Cond.instanceMethod yX2_expectedX, Cond.selects RX2 yX2_expectedX yX2_expectedX, Cond.code yX2_expectedX cX2_expectedX 2 (some .int), Cond.static yX5_isFirstOfBand, Cond.code yX5_isFirstOfBand cX5_isFirstOfBand 1 (some .boolean), Cond.methodLink RX0 88 yX2_expectedY, Cond.instanceMethod yX2_expectedY, Cond.selects RX2 yX2_expectedY yX2_expectedY]
def wsL_law0_r11 : List Cond := [Cond.code yX2_expectedY cX2_expectedY 2 (some .int), Cond.methodLink RX0 120 yX3_differenceMoved, Cond.instanceMethod yX3_differenceMoved, Cond.selects RX3 yX3_differenceMoved yX3_differenceMoved, Cond.code yX3_differenceMoved cX3_differenceMoved 14 (some .int), Cond.methodLink RX3 53 Lib.Math.abs.name, Cond.methodLink RX3 42 yX3_startAhead, Cond.instanceMethod yX3_startAhead, Cond.selects RX3 yX3_startAhead yX3_startAhead, Cond.code yX3_startAhead cX3_startAhead 8 (some .int), Cond.static yX5_firstPointOf, Cond.code yX5_firstPointOf cX5_firstPointOf 1 (some .int), Cond.methodLink RX3 46 yX3_between, Cond.instanceMethod yX3_between, Cond.selects RX3 yX3_between yX3_between, Cond.code yX3_between cX3_between 6 (some .int), Cond.methodLink RX0 124 yX0_take, Cond.instanceMethod yX0_take, Cond.selects RX0 yX0_take yX0_take, Cond.code yX0_take cX0_take 5 none, Cond.methodLink RX0 65 yX0_tryKind, Cond.instanceMethod yX0_tryKind, Cond.selects RX0 yX0_tryKind yX0_tryKind, Cond.code yX0_tryKind cX0_tryKind 6 none]
def wsL_law0_r12 : List Cond := [Cond.methodLink RX0 73 yX3_foretell, Cond.instanceMethod yX3_foretell, Cond.selects RX3 yX3_foretell yX3_foretell, Cond.code yX3_foretell cX3_foretell 5 none, Cond.methodLink RX3 28 yX3_foretellMoved, Cond.instanceMethod yX3_foretellMoved, Cond.selects RX3 yX3_foretellMoved yX3_foretellMoved, Cond.code yX3_foretellMoved cX3_foretellMoved 9 none, Cond.methodLink RX3 32 yX3_foretellFlat, Cond.instanceMethod yX3_foretellFlat, Cond.selects RX3 yX3_foretellFlat yX3_foretellFlat, Cond.code yX3_foretellFlat cX3_foretellFlat 6 none, Cond.methodLink RX3 62 yJ7_fill_53178, Cond.methodLink RX3 36 yX3_foretellLeft, Cond.instanceMethod yX3_foretellLeft, Cond.selects RX3 yX3_foretellLeft yX3_foretellLeft, Cond.code yX3_foretellLeft cX3_foretellLeft 4 none, Cond.methodLink RX3 39 yX3_foretellTrend, Cond.instanceMethod yX3_foretellTrend, Cond.selects RX3 yX3_foretellTrend yX3_foretellTrend, Cond.code yX3_foretellTrend cX3_foretellTrend 6 none, Cond.methodLink RX0 127 yX3_difference, Cond.instanceMethod yX3_difference, Cond.selects RX3 yX3_difference yX3_difference]
def wsL_law0_r13 : List Cond := [Cond.code yX3_difference cX3_difference 6 (some .int), Cond.methodLink RX0 80 yX3_measure, Cond.instanceMethod yX3_measure, Cond.selects RX3 yX3_measure yX3_measure, Cond.code yX3_measure cX3_measure 10 (some .boolean), Cond.fieldLink RX3 80 "GreyReel$Studio" "ORDER" "[I", Cond.methodLink RX3 71 yX3_placeInBlock, Cond.static yX3_placeInBlock, Cond.code yX3_placeInBlock cX3_placeInBlock 4 (some .int), Cond.methodLink RX3 74 yX3_pointOf, Cond.static yX3_pointOf, Cond.code yX3_pointOf cX3_pointOf 2 (some .int), Cond.methodLink RX3 77 yX3_turnQuarter, Cond.instanceMethod yX3_turnQuarter, Cond.selects RX3 yX3_turnQuarter yX3_turnQuarter, Cond.code yX3_turnQuarter cX3_turnQuarter 2 none, Cond.methodLink RX3 86 yX3_turnFour, Cond.instanceMethod yX3_turnFour, Cond.selects RX3 yX3_turnFour yX3_turnFour, Cond.code yX3_turnFour cX3_turnFour 7 none, Cond.methodLink RX3 83 yX3_levelOf, Cond.static yX3_levelOf, Cond.code yX3_levelOf cX3_levelOf 4 (some .int), Cond.methodLink RX0 103 yX3_makeBlock]
def wsL_law0_r14 : List Cond := [Cond.instanceMethod yX3_makeBlock, Cond.selects RX3 yX3_makeBlock yX3_makeBlock, Cond.code yX3_makeBlock cX3_makeBlock 8 none, Cond.methodLink RX0 44 yX3_smooth, Cond.instanceMethod yX3_smooth, Cond.selects RX3 yX3_smooth yX3_smooth, Cond.code yX3_smooth cX3_smooth 4 none, Cond.methodLink RX3 90 yX3_smoothAcross, Cond.instanceMethod yX3_smoothAcross, Cond.selects RX3 yX3_smoothAcross yX3_smoothAcross, Cond.code yX3_smoothAcross cX3_smoothAcross 10 none, Cond.methodLink RX5 296 yX2_freshBlocks, Cond.instanceMethod yX2_freshBlocks, Cond.selects RX2 yX2_freshBlocks yX2_freshBlocks, Cond.code yX2_freshBlocks cX2_freshBlocks 1 (some .int), Cond.methodLink RX2 64 yX2_blocksOf, Cond.instanceMethod yX2_blocksOf, Cond.selects RX2 yX2_blocksOf yX2_blocksOf, Cond.code yX2_blocksOf cX2_blocksOf 4 (some .int), Cond.methodLink RX5 140 yX1_write, Cond.instanceMethod yX1_write, Cond.selects RX1 yX1_write yX1_write, Cond.code yX1_write cX1_write 5 none, Cond.fieldLink RX1 47 "GreyReel$Picture" "usedBits" "[I"]
def wsL_law0_r15 : List Cond := [Cond.methodLink RX1 35 yJ7_fill_53178, Cond.methodLink RX1 39 yX1_startBand, Cond.instanceMethod yX1_startBand, Cond.selects RX1 yX1_startBand yX1_startBand, Cond.code yX1_startBand cX1_startBand 3 none, Cond.fieldLink RX1 56 "GreyReel$Picture" "number" "I", Cond.fieldLink RX1 63 "GreyReel$Picture" "isKeyPicture" "Z", Cond.fieldLink RX1 67 "GreyReel$Picture" "q" "I", Cond.fieldLink RX1 70 "GreyReel$Picture" "isSmoothed" "Z", Cond.methodLink RX1 59 yX1_put, Cond.instanceMethod yX1_put, Cond.selects RX1 yX1_put yX1_put, Cond.code yX1_put cX1_put 5 none, Cond.methodLink RX1 43 yX1_writeBlock, Cond.instanceMethod yX1_writeBlock, Cond.selects RX1 yX1_writeBlock yX1_writeBlock, Cond.code yX1_writeBlock cX1_writeBlock 5 none, Cond.fieldLink RX1 73 "GreyReel$Picture" "kind" "[I", Cond.fieldLink RX1 80 "GreyReel$Picture" "vx" "[I", Cond.fieldLink RX1 89 "GreyReel$Picture" "vy" "[I", Cond.fieldLink RX1 95 "GreyReel$Picture" "level" "[I", Cond.methodLink RX1 76 yX1_writeKind, Cond.instanceMethod yX1_writeKind, Cond.selects RX1 yX1_writeKind yX1_writeKind]
def wsL_law0_r16 : List Cond := [Cond.code yX1_writeKind cX1_writeKind 4 none, Cond.methodLink RX1 101 yX1_putOnes, Cond.instanceMethod yX1_putOnes, Cond.selects RX1 yX1_putOnes yX1_putOnes, Cond.code yX1_putOnes cX1_putOnes 2 none, Cond.methodLink RX1 83 yX2_expectedX, Cond.methodLink RX1 86 yX1_writeSigned, Cond.instanceMethod yX1_writeSigned, Cond.selects RX1 yX1_writeSigned yX1_writeSigned, Cond.code yX1_writeSigned cX1_writeSigned 4 none, Cond.static yX5_folded, Cond.code yX5_folded cX5_folded 1 (some .int), Cond.methodLink RX1 92 yX2_expectedY, Cond.methodLink RX1 98 yX1_writeLevels, Cond.instanceMethod yX1_writeLevels, Cond.selects RX1 yX1_writeLevels yX1_writeLevels, Cond.code yX1_writeLevels cX1_writeLevels 6 none, Cond.methodLink RX1 107 yX1_writeNumber, Cond.instanceMethod yX1_writeNumber, Cond.selects RX1 yX1_writeNumber yX1_writeNumber, Cond.code yX1_writeNumber cX1_writeNumber 4 none, Cond.methodLink RX1 52 yX2_bytesIn, Cond.instanceMethod yX2_bytesIn, Cond.selects RX2 yX2_bytesIn yX2_bytesIn]
def wsL_law0_r17 : List Cond := [Cond.code yX2_bytesIn cX2_bytesIn 2 (some .int), Cond.methodLink RX5 144 yX2_bytesInAll, Cond.instanceMethod yX2_bytesInAll, Cond.selects RX2 yX2_bytesInAll yX2_bytesInAll, Cond.code yX2_bytesInAll cX2_bytesInAll 1 (some .int), Cond.methodLink RX2 61 yX2_firstByteOf, Cond.instanceMethod yX2_firstByteOf, Cond.selects RX2 yX2_firstByteOf yX2_firstByteOf, Cond.code yX2_firstByteOf cX2_firstByteOf 4 (some .int), Cond.methodLink RX2 57 yX2_bytesIn, Cond.methodLink RL 99 yX5_digest, Cond.instanceMethod yX5_digest, Cond.selects RX5 yX5_digest yX5_digest, Cond.code yX5_digest cX5_digest 4 (some .long), Cond.constantLong RX5 251 (58019), Cond.constantLong RX5 253 (31), Cond.fieldLink RX5 208 "GreyReel$Viewer" "shownPictures" "I", Cond.fieldLink RX5 228 "GreyReel$Viewer" "screen" "[I", Cond.methodLink RX5 255 yX5_drift, Cond.instanceMethod yX5_drift, Cond.selects RX5 yX5_drift yX5_drift, Cond.code yX5_drift cX5_drift 2 (some .int), Cond.methodLink RX5 231 yX5_distance, Cond.static yX5_distance]
def wsL_law0_r18 : List Cond := [Cond.code yX5_distance cX5_distance 4 (some .int), Cond.methodLink RX5 274 Lib.Math.abs.name, Cond.methodLink RX5 258 yX5_bytesOfAll, Cond.instanceMethod yX5_bytesOfAll, Cond.selects RX5 yX5_bytesOfAll yX5_bytesOfAll, Cond.code yX5_bytesOfAll cX5_bytesOfAll 3 (some .int), Cond.methodLink RX5 161 yX5_pictureAt, Cond.instanceMethod yX5_pictureAt, Cond.selects RX5 yX5_pictureAt yX5_pictureAt, Cond.code yX5_pictureAt cX5_pictureAt 3 (some (.object "GreyReel$Picture")), Cond.classLink RX5 269 "java/lang/IndexOutOfBoundsException", Cond.initialized "java/lang/IndexOutOfBoundsException", Cond.methodLink RX5 261 yX2_digestOn, Cond.instanceMethod yX2_digestOn, Cond.selects RX2 yX2_digestOn yX2_digestOn, Cond.code yX2_digestOn cX2_digestOn 6 (some .long), Cond.constantLong RX2 71 (31), Cond.methodLink RX2 73 yX2_levelsNotZero, Cond.instanceMethod yX2_levelsNotZero, Cond.selects RX2 yX2_levelsNotZero yX2_levelsNotZero, Cond.code yX2_levelsNotZero cX2_levelsNotZero 4 (some .int), Cond.methodLink RX2 76 yX2_digestPacket, Cond.instanceMethod yX2_digestPacket, Cond.selects RX2 yX2_digestPacket yX2_digestPacket]
def wsL_law0_r19 : List Cond := [Cond.code yX2_digestPacket cX2_digestPacket 8 (some .long), Cond.methodLink RX5 265 yX5_digestPoints, Cond.static yX5_digestPoints, Cond.code yX5_digestPoints cX5_digestPoints 6 (some .long), Cond.methodLink RL 103 yX5_priceOf, Cond.instanceMethod yX5_priceOf, Cond.selects RX5 yX5_priceOf yX5_priceOf, Cond.code yX5_priceOf cX5_priceOf 3 (some .int), Cond.fieldLink RX5 239 "GreyReel$Picture" "price" "[I", Cond.methodLink RX5 171 yX5_placeIn, Cond.static yX5_placeIn, Cond.code yX5_placeIn cX5_placeIn 2 (some .int), Cond.methodLink RL 106 yX5_code, Cond.instanceMethod yX5_code, Cond.selects RX5 yX5_code yX5_code, Cond.code yX5_code cX5_code 2 (some .int), Cond.fieldLink RX5 152 "GreyReel$Picture" "row" "[I", Cond.methodLink RX5 148 yX1_copyOfBytes, Cond.instanceMethod yX1_copyOfBytes, Cond.selects RX1 yX1_copyOfBytes yX1_copyOfBytes, Cond.code yX1_copyOfBytes cX1_copyOfBytes 2 (some (.array .int)), Cond.methodLink RX1 29 yJ7_copyOf_59c91, Cond.static yJ7_copyOf_59c91, Cond.code yJ7_copyOf_59c91 cJ7_copyOf_59c91 3 (some (.array .int))]
def wsL_law0_r20 : List Cond := [Cond.methodLink RJ7 316 ⟨"[I", "clone", "()Ljava/lang/Object;"⟩, Cond.sameMethod "[I" "java/lang/Object" "clone" "()Ljava/lang/Object;", Cond.native ⟨"java/lang/Object", "clone", "()Ljava/lang/Object;"⟩, Cond.instanceMethod ⟨"java/lang/Object", "clone", "()Ljava/lang/Object;"⟩, Cond.selects "[I" ⟨"[I", "clone", "()Ljava/lang/Object;"⟩ ⟨"java/lang/Object", "clone", "()Ljava/lang/Object;"⟩, Cond.classLink RJ7 317 "[I", Cond.methodLink RJ7 304 Lib.Math.min.name, Cond.methodLink RJ7 150 arraycopyName, Cond.methodLink RX5 158 yX5_steer, Cond.instanceMethod yX5_steer, Cond.selects RX5 yX5_steer yX5_steer, Cond.code yX5_steer cX5_steer 4 none, Cond.methodLink RL 109 yL_isSound, Cond.static yL_isSound, Cond.code yL_isSound cL_isSound 6 (some .boolean), Cond.methodLink RL 52 Lib.Math.abs.name, Cond.methodLink RL 36 yX5_kindOf, Cond.instanceMethod yX5_kindOf, Cond.selects RX5 yX5_kindOf yX5_kindOf, Cond.code yX5_kindOf cX5_kindOf 3 (some .int), Cond.fieldLink RX5 168 "GreyReel$Picture" "kind" "[I", Cond.methodLink RL 39 yX5_levels, Cond.instanceMethod yX5_levels, Cond.selects RX5 yX5_levels yX5_levels]
def wsL_law0_r21 : List Cond := [Cond.code yX5_levels cX5_levels 3 (some .int), Cond.methodLink RX5 180 yX2_levelsNotZero, Cond.methodLink RL 42 yX5_isKey, Cond.instanceMethod yX5_isKey, Cond.selects RX5 yX5_isKey yX5_isKey, Cond.code yX5_isKey cX5_isKey 2 (some .boolean), Cond.methodLink RL 46 yX5_vectorX, Cond.instanceMethod yX5_vectorX, Cond.selects RX5 yX5_vectorX yX5_vectorX, Cond.code yX5_vectorX cX5_vectorX 3 (some .int), Cond.fieldLink RX5 174 "GreyReel$Picture" "vx" "[I", Cond.methodLink RL 49 yX5_vectorY, Cond.instanceMethod yX5_vectorY, Cond.selects RX5 yX5_vectorY yX5_vectorY, Cond.code yX5_vectorY cX5_vectorY 3 (some .int), Cond.fieldLink RX5 177 "GreyReel$Picture" "vy" "[I", Cond.methodLink RL 57 yX5_bits, Cond.instanceMethod yX5_bits, Cond.selects RX5 yX5_bits yX5_bits, Cond.code yX5_bits cX5_bits 3 (some .int), Cond.fieldLink RX5 195 "GreyReel$Picture" "usedBits" "[I", Cond.methodLink RL 60 yX5_bytes, Cond.instanceMethod yX5_bytes, Cond.selects RX5 yX5_bytes yX5_bytes]
def wsL_law0_r22 : List Cond := [Cond.code yX5_bytes cX5_bytes 3 (some .int), Cond.methodLink RX5 192 yX2_bytesIn, Cond.methodLink RL 63 yX5_byteAt, Cond.instanceMethod yX5_byteAt, Cond.selects RX5 yX5_byteAt yX5_byteAt, Cond.code yX5_byteAt cX5_byteAt 7 (some .int), Cond.methodLink RX5 198 yX2_firstByteOf, Cond.methodLink RL 66 yX5_errorOf, Cond.instanceMethod yX5_errorOf, Cond.selects RX5 yX5_errorOf yX5_errorOf, Cond.code yX5_errorOf cX5_errorOf 2 (some .int), Cond.fieldLink RX5 189 "GreyReel$Picture" "error" "I", Cond.methodLink RL 113 yX5_hand, Cond.instanceMethod yX5_hand, Cond.selects RX5 yX5_hand yX5_hand, Cond.code yX5_hand cX5_hand 4 (some .boolean), Cond.methodLink RX5 204 yX5_handOver, Cond.instanceMethod yX5_handOver, Cond.selects RX5 yX5_handOver yX5_handOver, Cond.code yX5_handOver cX5_handOver 4 (some .boolean), Cond.fieldLink RX5 235 "GreyReel$Picture" "got" "[Z", Cond.methodLink RL 117 yX5_driftNext, Cond.instanceMethod yX5_driftNext, Cond.selects RX5 yX5_driftNext yX5_driftNext]
def wsL_law0_r23 : List Cond := [Cond.code yX5_driftNext cX5_driftNext 2 (some .int), Cond.fieldLink RX5 242 "GreyReel$Viewer" "studio" "LGreyReel$Studio;", Cond.fieldLink RX5 246 "GreyReel$Studio" "made" "[I", Cond.methodLink RX5 219 yX4_make, Cond.instanceMethod yX4_make, Cond.selects RX4 yX4_make yX4_make, Cond.code yX4_make cX4_make 3 none, Cond.fieldLink RX4 36 "GreyReel$Picture" "got" "[Z", Cond.fieldLink RX4 42 "GreyReel$Picture" "kind" "[I", Cond.fieldLink RX4 45 "GreyReel$Picture" "vx" "[I", Cond.fieldLink RX4 48 "GreyReel$Picture" "vy" "[I", Cond.fieldLink RX4 55 "GreyReel$Picture" "q" "I", Cond.fieldLink RX4 58 "GreyReel$Picture" "level" "[I", Cond.fieldLink RX4 69 "GreyReel$Picture" "isSmoothed" "Z", Cond.methodLink RX4 32 yX3_lookAhead, Cond.methodLink RX4 51 yX3_foretell, Cond.methodLink RX4 61 yX3_makeBlock, Cond.methodLink RX4 65 yX4_conceal, Cond.instanceMethod yX4_conceal, Cond.selects RX4 yX4_conceal yX4_conceal, Cond.code yX4_conceal cX4_conceal 7 none, Cond.methodLink RX4 81 yX3_makeForetold, Cond.instanceMethod yX3_makeForetold, Cond.selects RX3 yX3_makeForetold yX3_makeForetold]
def wsL_law0_r24 : List Cond := [Cond.code yX3_makeForetold cX3_makeForetold 3 none, Cond.methodLink RX4 73 yX2_bandsGot, Cond.instanceMethod yX2_bandsGot, Cond.selects RX2 yX2_bandsGot yX2_bandsGot, Cond.code yX2_bandsGot cX2_bandsGot 3 (some .int), Cond.methodLink RX4 77 yX3_smooth, Cond.methodLink RL 120 yX5_shown, Cond.instanceMethod yX5_shown, Cond.selects RX5 yX5_shown yX5_shown, Cond.code yX5_shown cX5_shown 1 (some .int), Cond.methodLink RL 123 yX5_show, Cond.instanceMethod yX5_show, Cond.selects RX5 yX5_show yX5_show, Cond.code yX5_show cX5_show 2 (some .int), Cond.methodLink RX5 222 yX4_takeMade, Cond.instanceMethod yX4_takeMade, Cond.selects RX4 yX4_takeMade yX4_takeMade, Cond.code yX4_takeMade cX4_takeMade 1 none, Cond.fieldLink RX4 84 "GreyReel$Studio" "made" "[I", Cond.methodLink RX4 87 arraycopyName, Cond.methodLink RX5 225 yX2_bandsGot, Cond.methodLink RL 126 yX5_drift, Cond.methodLink RL 129 yX5_shownAt, Cond.instanceMethod yX5_shownAt]
def wsL_law0_r25 : List Cond := [Cond.selects RX5 yX5_shownAt yX5_shownAt, Cond.code yX5_shownAt cX5_shownAt 3 (some .int), Cond.methodLink RX5 120 yX5_pointAt, Cond.static yX5_pointAt, Cond.code yX5_pointAt cX5_pointAt 2 (some .int), Cond.methodLink RL 132 yX5_resultAt, Cond.instanceMethod yX5_resultAt, Cond.selects RX5 yX5_resultAt yX5_resultAt, Cond.code yX5_resultAt cX5_resultAt 4 (some .int), Cond.methodLink RL 135 yX5_bytesOfAll, Cond.methodLink RL 138 yX5_pictures, Cond.instanceMethod yX5_pictures, Cond.selects RX5 yX5_pictures yX5_pictures, Cond.code yX5_pictures cX5_pictures 1 (some .int), Cond.methodLink RL 141 yX5_meanError, Cond.instanceMethod yX5_meanError, Cond.selects RX5 yX5_meanError yX5_meanError, Cond.code yX5_meanError cX5_meanError 4 (some .double)]
def wsL_law0 : List Cond := (wsL_law0_r1 ++ (wsL_law0_r2 ++ (wsL_law0_r3 ++ (wsL_law0_r4 ++ (wsL_law0_r5 ++ (wsL_law0_r6 ++ (wsL_law0_r7 ++ (wsL_law0_r8 ++ (wsL_law0_r9 ++ (wsL_law0_r10 ++ (wsL_law0_r11 ++ (wsL_law0_r12 ++ (wsL_law0_r13 ++ (wsL_law0_r14 ++ (wsL_law0_r15 ++ (wsL_law0_r16 ++ (wsL_law0_r17 ++ (wsL_law0_r18 ++ (wsL_law0_r19 ++ (wsL_law0_r20 ++ (wsL_law0_r21 ++ (wsL_law0_r22 ++ (wsL_law0_r23 ++ (wsL_law0_r24 ++ wsL_law0_r25)))))))))))))))))))))))) ++ wsX50 ++ wsX00 ++ wsX10 ++ wsX40 ++ wsX20 ++ wsX30 ++ ([] : List Cond)
def wsL_law : List Cond := wsL_law0 ++ (vx_atS RX5 79 "java/lang/IllegalArgumentException" ["java/lang/RuntimeException", "java/lang/Exception"]).filter goodWord ++ (vx_atS RX5 218 "java/lang/IllegalStateException" ["java/lang/RuntimeException", "java/lang/Exception"]).filter goodWord ++ (vx_atS RX5 273 "java/lang/IndexOutOfBoundsException" ["java/lang/RuntimeException", "java/lang/Exception"]).filter goodWord
