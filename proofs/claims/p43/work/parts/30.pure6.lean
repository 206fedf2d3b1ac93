/-! PURE, 6: the mean of what is not negative is not negative, and no NaN -/
def posD (d : FP.Core.Datum) : Prop := (∃ (c : Nat) (q : Int), d = .fin false c q) ∨ d = .inf false
theorem posD_rr (f : FP.Core.Fmt) (A B : Nat) (e : Int) : posD (FP.Core.roundRatio f false A B e) := by
  unfold FP.Core.roundRatio
  split
  · exact Or.inl ⟨_, _, rfl⟩
  · unfold FP.Core.roundAt FP.Core.settle FP.Core.bound
    split
    · split
      · exact Or.inl ⟨_, _, rfl⟩
      · exact Or.inr rfl
    · split
      · exact Or.inl ⟨_, _, rfl⟩
      · exact Or.inr rfl
theorem nan64 {b : UInt64} (h : isNaN64 b = true) : FP.Core.val64 b = .nan := by
  have h1 : 0x7ff0000000000000 < b.toNat &&& 0x7fffffffffffffff := isNaN64_iff.mp h
  have h2 : b.toNat &&& 0x7fffffffffffffff = b.toNat % 2 ^ 63 := Nat.and_two_pow_sub_one_eq_mod _ 63
  rw [h2] at h1
  show FP.Core.decode FP.Core.b64 b.toNat = .nan
  unfold FP.Core.decode
  have e1 : FP.Core.fieldE FP.Core.b64 b.toNat = b.toNat / 4503599627370496 % 2048 := rfl
  have e2 : FP.Core.fieldT FP.Core.b64 b.toNat = b.toNat % 4503599627370496 := rfl
  have e3 : FP.Core.b64.exps - 1 = 2047 := rfl
  rw [e1, e2, e3, if_pos (by omega), if_neg (by omega)]
theorem i2d_8 : FP.Core.val64 (FP.i2d (nI 8)) = .fin false 4503599627370496 (-49) := by decide +kernel
theorem dc0 : FP.Core.decode FP.Core.b64 (FP.dconst0).toNat = .fin false 0 FP.Core.b64.qmin := by decide +kernel
theorem mean_pos {x : Int64} (hx : 0 ≤ x.toInt) : posD (FP.Core.val64 (FP.ddiv (FP.l2d x) (FP.i2d (nI 8)))) := by
  have h1 : FP.Core.val64 (FP.ddiv (FP.l2d x) (FP.i2d (nI 8))) = FP.Core.quotient FP.Core.b64 (FP.Core.val64 (FP.l2d x)) (FP.Core.val64 (FP.i2d (nI 8))) := FP.Core.val64_ddiv _ _
  have h2 : FP.Core.val64 (FP.l2d x) = FP.Core.round FP.Core.b64 (FP.Core.ofInt x.toInt) := FP.Core.val64_l2d _
  rw [h1, i2d_8, h2]
  have h3 : FP.Core.ofInt x.toInt = .fin false x.toInt.natAbs 0 := by
    unfold FP.Core.ofInt
    rw [decide_eq_false (by omega)]
  rw [h3]
  rcases posD_rr FP.Core.b64 x.toInt.natAbs 1 0 with ⟨c, q, h⟩ | h
  · have h4 : FP.Core.round FP.Core.b64 (.fin false x.toInt.natAbs 0) = .fin false c q := h
    rw [h4]
    exact posD_rr _ _ _ _
  · have h4 : FP.Core.round FP.Core.b64 (.fin false x.toInt.natAbs 0) = .inf false := h
    rw [h4]
    exact Or.inr rfl
theorem mean_cmp {x : Int64} (hx : 0 ≤ x.toInt) {r : UInt64} (h : alike64 r (FP.ddiv (FP.l2d x) (FP.i2d (nI 8))) = true) : ¬ Op.cmpValue (FP.dcmp r FP.dconst0) CmpOp.l < 0 := by
  have hp := mean_pos hx
  have hr : r = FP.ddiv (FP.l2d x) (FP.i2d (nI 8)) := by
    unfold alike64 at h
    rcases Bool.or_eq_true_iff.mp h with h | h
    · exact of_decide_eq_true h
    · have h5 := nan64 (Bool.and_eq_true_iff.mp h).2
      rw [h5] at hp
      rcases hp with ⟨c, q, z⟩ | z <;> cases z
  rw [← hr] at hp
  have e : FP.dcmp r FP.dconst0 = FP.Core.order (FP.Core.val64 r) (FP.Core.decode FP.Core.b64 (FP.dconst0).toNat) := rfl
  rw [e, dc0]
  rcases hp with ⟨c, q, z⟩ | z
  · rw [z]
    show ¬ Op.cmpValue (some (compare (FP.Core.signed false (FP.Core.inUnits c q (min q FP.Core.b64.qmin))) (FP.Core.signed false (FP.Core.inUnits 0 FP.Core.b64.qmin (min q FP.Core.b64.qmin))))) CmpOp.l < 0
    generalize FP.Core.inUnits c q (min q FP.Core.b64.qmin) = u
    have e0 : FP.Core.inUnits 0 FP.Core.b64.qmin (min q FP.Core.b64.qmin) = 0 := Nat.zero_mul _
    rw [e0]
    show ¬ Op.cmpValue (some (compare ((u : Nat) : Int) 0)) CmpOp.l < 0
    rcases Nat.eq_zero_or_pos u with hu | hu
    · subst hu; decide
    · have hc : compare ((u : Nat) : Int) 0 = .gt := by
        rw [Int.compare_eq_gt]
        omega
      rw [hc]
      decide
  · rw [z]
    decide
