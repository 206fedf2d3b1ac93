/-! PURE, 5: packets: at least 17 bits each; the first five tell the picture's number -/
section BITS5
variable {P : (Nat → Int32) → Nat → Prop}
/-- what one bit more doesn't change -/
def clP (P : (Nat → Int32) → Nat → Prop) : Prop := ∀ (row : Nat → Int32) (n : Nat) (v : Int32), v = 0 ∨ v = 1 → P row n → P (put1 row n v) (n + 1)
theorem and1 (x : Int32) : x &&& 1 = 0 ∨ x &&& 1 = 1 := by
  have h := lo_lt x
  rw [lo_eq]
  rcases (show lo x = 0 ∨ lo x = 1 by omega) with z | z
  · rw [z]; exact Or.inl rfl
  · rw [z]; exact Or.inr rfl
theorem cl_putR (hP : clP P) (num : Int32) : ∀ (m : Nat) (row : Nat → Int32) (n : Nat), P row n → P (putR num m row n) (n + m)
  | 0, _, _, h => h
  | m + 1, row, n, h => by
    have := cl_putR hP num m (put1 row n (num >>> (nI m &&& 31) &&& 1)) (n + 1) (hP row n (num >>> (nI m &&& 31) &&& 1) (and1 _) h)
    rw [show n + (m + 1) = n + 1 + m by omega]
    exact this
theorem cl_wpF (hP : clP P) (num len : Int32) (S : WST) (h : P S.1 S.2.2.2) : P (wpF num len S).1 (wpF num len S).2.2.2 := cl_putR hP num _ _ _ h
theorem cl_poF (hP : clP P) (cnt : Int32) (S : WST) (h : P S.1 S.2.2.2) : P (poF cnt S).1 (poF cnt S).2.2.2 := cl_wpF hP _ _ _ h
theorem cl_wnF (hP : clP P) (num : Int32) (ctx : Nat) (S : WST) (h : P S.1 S.2.2.2) : P (wnF num ctx S).1 (wnF num ctx S).2.2.2 := by
  show P (if num >>> (nI (kF (S.2.2.1 ctx)) &&& 31) < 12 then _ else _ : WST).1 (if num >>> (nI (kF (S.2.2.1 ctx)) &&& 31) < 12 then _ else _ : WST).2.2.2
  split
  · exact cl_wpF hP _ _ _ (cl_poF hP _ _ h)
  · exact cl_wpF hP _ _ _ (cl_wpF hP _ _ _ h)
theorem cl_wkF (hP : clP P) (kd : Nat) (S : WST) (h : P S.1 S.2.2.2) : P (wkF kd S).1 (wkF kd S).2.2.2 := by
  unfold wkF
  dsimp only
  split
  · exact cl_poF hP _ _ h
  · exact cl_wpF hP _ _ _ h
theorem cl_wsF (hP : clP P) (num : Int32) (S : WST) (h : P S.1 S.2.2.2) : P (wsF num S).1 (wsF num S).2.2.2 := cl_wpF hP _ _ _ h
theorem cl_wlS (hP : clP P) (lv : Nat → Int32) (a : Nat) (S : WST) (h : P S.1 S.2.2.2) : ∀ i, P (wlS lv a S i).1 (wlS lv a S i).2.2.2
  | 0 => h
  | i + 1 => cl_wnF hP _ _ _ (cl_wlS hP lv a S h i)
theorem cl_wlF (hP : clP P) (lv : Nat → Int32) (a : Nat) (S : WST) (h : P S.1 S.2.2.2) : P (wlF lv a S).1 (wlF lv a S).2.2.2 := cl_wlS hP lv a _ (cl_wnF hP _ _ _ h) _
theorem cl_wlQ (hP : clP P) (fv : Nat → Int32) (b : Nat) (S : WST) (h : P S.1 S.2.2.2) : ∀ i, P (wlQ fv b S i).1 (wlQ fv b S i).2.2.2
  | 0 => h
  | i + 1 => cl_wlF hP _ _ _ (cl_wlQ hP fv b S h i)
theorem cl_wbV (hP : clP P) (kd : Nat → Nat) (fx fy : Nat → Int32) (b : Nat) (S : WST) (h : P S.1 S.2.2.2) : P (wbV kd fx fy b S).1 (wbV kd fx fy b S).2.2.2 := by
  unfold wbV
  split
  · exact cl_wsF hP _ _ (cl_wsF hP _ _ (cl_wkF hP _ _ h))
  · exact cl_wkF hP _ _ h
theorem cl_wbF (hP : clP P) (kd : Nat → Nat) (fx fy fv : Nat → Int32) (b : Nat) (S : WST) (h : P S.1 S.2.2.2) : P (wbF kd fx fy fv b S).1 (wbF kd fx fy fv b S).2.2.2 := by
  unfold wbF
  split
  · exact cl_wbV hP _ _ _ _ _ h
  · exact cl_wlQ hP _ _ _ (cl_wbV hP _ _ _ _ _ h) _
theorem cl_bdS (hP : clP P) (kd : Nat → Nat) (fx fy fv : Nat → Int32) (bd : Nat) (S : WST) (h : P S.1 S.2.2.2) : ∀ k, P (bdS kd fx fy fv bd S k).1 (bdS kd fx fy fv bd S k).2.2.2
  | 0 => h
  | k + 1 => cl_wbF hP _ _ _ _ _ _ (cl_bdS hP kd fx fy fv bd S h k)
end BITS5
/-- what lies behind the last bit is 0 -/
def zP (row : Nat → Int32) (n : Nat) : Prop := ∀ j, n ≤ 8 * j → row j = 0
theorem zP_cl : clP zP := by
  intro row n v _ h j hj
  unfold put1
  split
  · unfold upd
    rw [if_neg (by omega)]
    exact h j (by omega)
  · exact h j (by omega)
/-- the upper five bits of byte i -/
def uP (i : Nat) (x : Int32) (row : Nat → Int32) (n : Nat) : Prop := 8 * i + 5 ≤ n ∧ row i >>> ((3 : Int32) &&& 31) = x
theorem or_low (a : Int32) {w : Int32} (h : w >>> ((3 : Int32) &&& 31) = 0) : (a ||| w) >>> ((3 : Int32) &&& 31) = a >>> ((3 : Int32) &&& 31) := by
  have e : ∀ x : Int32, (x >>> ((3 : Int32) &&& 31)).toBitVec = x.toBitVec.sshiftRight 3 := fun x => by
    rw [show ((3 : Int32) &&& 31) = 3 by decide, Int32.toBitVec_shiftRight]
    rfl
  apply Int32.toBitVec_inj.mp
  rw [e, e, Int32.toBitVec_or, BitVec.sshiftRight_or_distrib]
  have h2 : w.toBitVec.sshiftRight 3 = 0#32 := by rw [← e, h]; rfl
  rw [h2, BitVec.or_zero]
theorem low_bits : ∀ t, t < 8 → 5 ≤ t → ((0 : Int32) <<< (nI (7 - t) &&& 31)) >>> ((3 : Int32) &&& 31) = 0 ∧ ((1 : Int32) <<< (nI (7 - t) &&& 31)) >>> ((3 : Int32) &&& 31) = 0 := by decide +kernel
theorem uP_cl (i : Nat) (x : Int32) : clP (uP i x) := by
  intro row n v hv h
  refine ⟨by have := h.1; omega, ?_⟩
  unfold put1
  split
  · unfold upd
    by_cases hi : i = n / 8
    · rw [if_pos hi, ← hi]
      have h5 : 5 ≤ n % 8 := by have := h.1; omega
      have hl := low_bits (n % 8) (Nat.mod_lt _ (by decide)) h5
      rcases hv with e | e
      · rw [e, or_low _ hl.1]; exact h.2
      · rw [e, or_low _ hl.2]; exact h.2
    · rw [if_neg hi]; exact h.2
  · exact h.2
theorem put1_at {row : Nat → Int32} {i t : Nat} {v : Int32} (hi : i < 2487) (ht : t < 8) : put1 row (8 * i + t) v = upd row i (row i ||| v <<< (nI (7 - t) &&& 31)) := by
  unfold put1
  rw [show (8 * i + t) / 8 = i by omega, show (8 * i + t) % 8 = t by omega, if_pos hi]
def b5 (x : Int32) (j : Nat) : Int32 := x >>> (nI j &&& 31) &&& 1
theorem num5 : ∀ k, k < 32 → ((((((0 : Int32) ||| b5 (nI k) 4 <<< (nI 7 &&& 31)) ||| b5 (nI k) 3 <<< (nI 6 &&& 31)) ||| b5 (nI k) 2 <<< (nI 5 &&& 31)) ||| b5 (nI k) 1 <<< (nI 4 &&& 31)) ||| b5 (nI k) 0 <<< (nI 3 &&& 31)) >>> ((3 : Int32) &&& 31) = nI k := by decide +kernel
theorem sb_num {k i : Nat} {row : Nat → Int32} (hk : k < 32) (hi : i < 2487) (h0 : row i = 0) : uP i (nI k) (putR (nI k) 5 row (8 * i)) (8 * i + 5) := by
  refine ⟨Nat.le_refl _, ?_⟩
  have e : putR (nI k) 5 row (8 * i) = put1 (put1 (put1 (put1 (put1 row (8 * i + 0) (b5 (nI k) 4)) (8 * i + 1) (b5 (nI k) 3)) (8 * i + 2) (b5 (nI k) 2)) (8 * i + 3) (b5 (nI k) 1)) (8 * i + 4) (b5 (nI k) 0) := rfl
  rw [e, put1_at hi (by omega), put1_at hi (by omega), put1_at hi (by omega), put1_at hi (by omega), put1_at hi (by omega)]
  simp only [upd_eq9, h0]
  exact num5 k hk
section PK5
variable (kd : Nat → Nat) (fx fy fv : Nat → Int32) (q ky sm : Int32)
theorem bd_cl {P : (Nat → Int32) → Nat → Prop} (hP : clP P) (num : Int32) (bd : Nat) (row : Nat → Int32) (n : Nat) (h : P row n) : P (bdF kd fx fy fv num ky q sm bd row n).1 (bdF kd fx fy fv num ky q sm bd row n).2.2.2 := by
  unfold bdF
  refine cl_bdS hP _ _ _ _ _ _ ?_ _
  unfold sbF
  exact cl_wpF hP _ _ _ (cl_wpF hP _ _ _ (cl_wpF hP _ _ _ (cl_wpF hP _ _ (row, (fun k => nI k), (fun _ => 4), n) h)))
theorem wrS_z (num : Int32) : ∀ k, zP (wrS kd fx fy fv num ky q sm k).1 (wrS kd fx fy fv num ky q sm k).2
  | 0 => fun _ _ => rfl
  | k + 1 => by
    have h := bd_cl kd fx fy fv q ky sm zP_cl num k _ _ (wrS_z num k)
    have h2 := bdF_n kd fx fy fv num ky q sm k (wrS kd fx fy fv num ky q sm k).1 (wrS kd fx fy fv num ky q sm k).2
    intro j hj
    refine h j ?_
    have hj2 : (wrS kd fx fy fv num ky q sm k).2 + ((bdF kd fx fy fv num ky q sm k (wrS kd fx fy fv num ky q sm k).1 (wrS kd fx fy fv num ky q sm k).2).2.2.2 - (wrS kd fx fy fv num ky q sm k).2 + 7) / 8 * 8 ≤ 8 * j := hj
    omega
theorem wrS_8 (num : Int32) : ∀ k, (wrS kd fx fy fv num ky q sm k).2 = 8 * fbN (ubF kd fx fy fv num ky q sm) k
  | 0 => rfl
  | k + 1 => by
    have h := wrS_8 num k
    show (wrS kd fx fy fv num ky q sm k).2 + (ubF kd fx fy fv num ky q sm k + 7) / 8 * 8 = 8 * (fbN (ubF kd fx fy fv num ky q sm) k + (ubF kd fx fy fv num ky q sm k + 7) / 8)
    omega
theorem bd_num {k bd : Nat} (hk : k < 32) (hbd : bd < 3) : uP (fbN (ubF kd fx fy fv (nI k) ky q sm) bd) (nI k) (wrS kd fx fy fv (nI k) ky q sm (bd + 1)).1 (wrS kd fx fy fv (nI k) ky q sm (bd + 1)).2 := by
  have h8 := wrS_8 kd fx fy fv q ky sm (nI k) bd
  have hn := wrS_n kd fx fy fv (nI k) ky q sm bd
  have hz := wrS_z kd fx fy fv q ky sm (nI k) bd
  have h1 := sb_num (k := k) (i := fbN (ubF kd fx fy fv (nI k) ky q sm) bd) (row := (wrS kd fx fy fv (nI k) ky q sm bd).1) hk (by omega) (hz _ (by omega))
  rw [← h8] at h1
  have h2 : uP (fbN (ubF kd fx fy fv (nI k) ky q sm) bd) (nI k) (bdF kd fx fy fv (nI k) ky q sm bd (wrS kd fx fy fv (nI k) ky q sm bd).1 (wrS kd fx fy fv (nI k) ky q sm bd).2).1 (bdF kd fx fy fv (nI k) ky q sm bd (wrS kd fx fy fv (nI k) ky q sm bd).1 (wrS kd fx fy fv (nI k) ky q sm bd).2).2.2.2 := by
    unfold bdF
    refine cl_bdS (uP_cl _ _) _ _ _ _ _ _ ?_ _
    unfold sbF
    exact cl_wpF (uP_cl _ _) _ _ _ (cl_wpF (uP_cl _ _) _ _ _ (cl_wpF (uP_cl _ _) _ _ _ h1))
  have h3 := bdF_n kd fx fy fv (nI k) ky q sm bd (wrS kd fx fy fv (nI k) ky q sm bd).1 (wrS kd fx fy fv (nI k) ky q sm bd).2
  refine ⟨?_, h2.2⟩
  have h4 := h2.1
  show _ ≤ (wrS kd fx fy fv (nI k) ky q sm bd).2 + ((bdF kd fx fy fv (nI k) ky q sm bd (wrS kd fx fy fv (nI k) ky q sm bd).1 (wrS kd fx fy fv (nI k) ky q sm bd).2).2.2.2 - (wrS kd fx fy fv (nI k) ky q sm bd).2 + 7) / 8 * 8
  omega
theorem bd_keep {i : Nat} {x num : Int32} {k : Nat} (h : uP i x (wrS kd fx fy fv num ky q sm k).1 (wrS kd fx fy fv num ky q sm k).2) : uP i x (wrS kd fx fy fv num ky q sm (k + 1)).1 (wrS kd fx fy fv num ky q sm (k + 1)).2 := by
  have h2 := bd_cl kd fx fy fv q ky sm (uP_cl i x) num k _ _ h
  have h3 := bdF_n kd fx fy fv num ky q sm k (wrS kd fx fy fv num ky q sm k).1 (wrS kd fx fy fv num ky q sm k).2
  refine ⟨?_, h2.2⟩
  have h4 := h2.1
  show _ ≤ (wrS kd fx fy fv num ky q sm k).2 + ((bdF kd fx fy fv num ky q sm k (wrS kd fx fy fv num ky q sm k).1 (wrS kd fx fy fv num ky q sm k).2).2.2.2 - (wrS kd fx fy fv num ky q sm k).2 + 7) / 8 * 8
  omega
/-- each packet begins with its picture's number -/
theorem first5 {k bd : Nat} (hk : k < 32) (hbd : bd < 3) : (wrS kd fx fy fv (nI k) ky q sm 3).1 (fbN (ubF kd fx fy fv (nI k) ky q sm) bd) >>> ((3 : Int32) &&& 31) = nI k := by
  have h := bd_num kd fx fy fv q ky sm hk hbd
  rcases (show bd = 0 ∨ bd = 1 ∨ bd = 2 by omega) with e | e | e
  · subst e; exact (bd_keep kd fx fy fv q ky sm (bd_keep kd fx fy fv q ky sm h)).2
  · subst e; exact (bd_keep kd fx fy fv q ky sm h).2
  · subst e; exact h.2
theorem ub_lt (num : Int32) : ∀ j, j < 3 → ubF kd fx fy fv num ky q sm j < 1048576 := fun j _ => by
  have := (ubF_n kd fx fy fv num ky q sm j).2; omega
theorem fb_rng (num : Int32) : 9 ≤ fbN (ubF kd fx fy fv num ky q sm) 3 ∧ fbN (ubF kd fx fy fv num ky q sm) 3 ≤ 2556 := by
  have h0 := ubF_n kd fx fy fv num ky q sm 0
  have h1 := ubF_n kd fx fy fv num ky q sm 1
  have h2 := ubF_n kd fx fy fv num ky q sm 2
  show 9 ≤ 0 + (ubF kd fx fy fv num ky q sm 0 + 7) / 8 + (ubF kd fx fy fv num ky q sm 1 + 7) / 8 + (ubF kd fx fy fv num ky q sm 2 + 7) / 8 ∧ 0 + (ubF kd fx fy fv num ky q sm 0 + 7) / 8 + (ubF kd fx fy fv num ky q sm 1 + 7) / 8 + (ubF kd fx fy fv num ky q sm 2 + 7) / 8 ≤ 2556
  omega
theorem fb_band (num : Int32) {bd : Nat} (hbd : bd < 3) : fbN (ubF kd fx fy fv num ky q sm) bd < fbN (ubF kd fx fy fv num ky q sm) 3 ∧ fbN (ubF kd fx fy fv num ky q sm) bd ≤ 1704 := by
  have h0 := ubF_n kd fx fy fv num ky q sm 0
  have h1 := ubF_n kd fx fy fv num ky q sm 1
  have h2 := ubF_n kd fx fy fv num ky q sm 2
  have e3 : fbN (ubF kd fx fy fv num ky q sm) 3 = 0 + (ubF kd fx fy fv num ky q sm 0 + 7) / 8 + (ubF kd fx fy fv num ky q sm 1 + 7) / 8 + (ubF kd fx fy fv num ky q sm 2 + 7) / 8 := rfl
  have e2 : fbN (ubF kd fx fy fv num ky q sm) 2 = 0 + (ubF kd fx fy fv num ky q sm 0 + 7) / 8 + (ubF kd fx fy fv num ky q sm 1 + 7) / 8 := rfl
  have e1 : fbN (ubF kd fx fy fv num ky q sm) 1 = 0 + (ubF kd fx fy fv num ky q sm 0 + 7) / 8 := rfl
  have e0 : fbN (ubF kd fx fy fv num ky q sm) 0 = 0 := rfl
  rcases (show bd = 0 ∨ bd = 1 ∨ bd = 2 by omega) with e | e | e <;> subst e <;> omega
end PK5
