/-! PURE, 2: how a block is chosen, from whatever stood in the arrays -/
theorem absI_n (x : Int32) {B : Int} (h1 : -B ≤ x.toInt) (h2 : x.toInt ≤ B) (hB : B < 2147483648) : 0 ≤ (absI x).toInt ∧ (absI x).toInt ≤ B := absI_le h1 h2 hB
theorem vOK_i {v : Int32} (h : vOK v) : -6 ≤ v.toInt ∧ v.toInt ≤ 6 := by
  obtain ⟨h1, h2⟩ := h
  rw [Int32.lt_iff_toInt_lt, ti_m6] at h1
  rw [Int32.le_iff_toInt_le, ti_6] at h2
  omega
def qOK (q : Int32) : Prop := 1 ≤ q.toInt ∧ q.toInt ≤ 60
theorem tvW_rng {q ex ey vx vy : Int32} (hq : qOK q) (h1 : vOK ex) (h2 : vOK ey) (h3 : vOK vx) (h4 : vOK vy) : 2 ≤ (tvW q ex ey vx vy).toInt ∧ (tvW q ex ey vx vy).toInt ≤ 1560 := by
  have a1 := vOK_i h1
  have a2 := vOK_i h2
  have a3 := vOK_i h3
  have a4 := vOK_i h4
  have e1 : (vx - ex).toInt = vx.toInt - ex.toInt := ti_sub (by omega) (by omega)
  have e2 : (vy - ey).toInt = vy.toInt - ey.toInt := ti_sub (by omega) (by omega)
  have b1 := absI_n (vx - ex) (B := 12) (by omega) (by omega) (by omega)
  have b2 := absI_n (vy - ey) (B := 12) (by omega) (by omega) (by omega)
  have e3 : (absI (vx - ex) + absI (vy - ey)).toInt = (absI (vx - ex)).toInt + (absI (vy - ey)).toInt := ti_add (by omega) (by omega)
  have e4 : (2 + (absI (vx - ex) + absI (vy - ey))).toInt = 2 + ((absI (vx - ex)).toInt + (absI (vy - ey)).toInt) := by rw [ti_add (by rw [ti_2]; omega) (by rw [ti_2]; omega), ti_2, e3]
  obtain ⟨w, hw⟩ : ∃ w : Int, w = (2 + (absI (vx - ex) + absI (vy - ey))).toInt := ⟨_, rfl⟩
  have hw2 : 2 ≤ w ∧ w ≤ 26 := by omega
  have m1 : q.toInt * 2 ≤ q.toInt * w := Int.mul_le_mul_of_nonneg_left hw2.1 (by have := hq.1; omega)
  have m2 : q.toInt * w ≤ 60 * w := Int.mul_le_mul_of_nonneg_right hq.2 (by omega)
  have hq1 := hq.1
  have e5 : (tvW q ex ey vx vy).toInt = q.toInt * w := by
    unfold tvW
    rw [ti_mul (by rw [← hw]; omega) (by rw [← hw]; omega), ← hw]
  omega
/-- what a candidate is: a vector of a DELTA, or a kind without one -/
def candOK (b : Nat) (ky : Int32) (S : BST) : Prop := (S.1 = 1 ∧ ky = 0 ∨ 2 ≤ S.1 ∧ S.1 ≤ 4 ∧ S.2.1 = 0 ∧ S.2.2.1 = 0) ∧ (3 ≤ S.1 → ¬ b % 4 = 0) ∧ stOK S ∧ 1 ≤ S.2.2.2.toInt ∧ S.2.2.2.toInt < 1048576
def gOK (b : Nat) (ky : Int32) (S : BST) : Prop := S.2.2.2 = 1048576 ∧ stOK S ∨ candOK b ky S
theorem vOK_0 : vOK 0 := by constructor <;> decide
theorem tkF_ok {fc fa fm : Nat → Int32} {b kd : Nat} {ky ex : Int32} {S : BST} (hb : b < 12) (hc : rng fc 768) (hm : rng fm 768) (h2 : 2 ≤ kd) (h4 : kd ≤ 4) (h3 : 3 ≤ kd → ¬ b % 4 = 0) (hx : 1 ≤ ex.toInt ∧ ex.toInt ≤ 120) (hS : gOK b ky S) : candOK b ky (tkF fc fa fm b kd ex S) := by
  have h := dfF_rng hb hc (ftF_rng (vx := 0) (vy := 0) (fa := fa) hb h3 vOK_0 vOK_0 (fun h => absurd h (by omega)) hm) 64 (Nat.le_refl _)
  have e : (dfF fc (ftF kd b 0 0 fa fm) b 64 + ex).toInt = (dfF fc (ftF kd b 0 0 fa fm) b 64).toInt + ex.toInt := ti_add (by omega) (by omega)
  unfold tkF
  split
  · rename_i hle
    rw [Int32.le_iff_toInt_le, e] at hle
    rcases hS with ⟨hS, -⟩ | hS
    · rw [hS, ti_M] at hle; omega
    · exact hS
  · refine ⟨Or.inr ⟨h2, h4, rfl, rfl⟩, h3, ⟨vOK_0, vOK_0⟩, ?_, ?_⟩
    · show 1 ≤ (dfF fc (ftF kd b 0 0 fa fm) b 64 + ex).toInt
      rw [e]; omega
    · show (dfF fc (ftF kd b 0 0 fa fm) b 64 + ex).toInt < _
      rw [e]; omega
section VEC
variable {fc fa : Nat → Int32} {b : Nat} {q ex ey : Int32}
theorem tvP (hb : b < 12) (hc : rng fc 768) (ha : rng fa 1140) (hq : qOK q) (hex : vOK ex) (hey : vOK ey) {vx vy : Int32} (hx : vOK vx) (hy : vOK vy) (lim : Int32) : 2 ≤ (tvW q ex ey vx vy + dmL fc fa b vx vy lim 8).toInt ∧ (tvW q ex ey vx vy + dmL fc fa b vx vy lim 8).toInt < 1048576 := by
  have h1 := tvW_rng hq hex hey hx hy
  have h2 := dmL_rng (lim := lim) hb hx hy hc ha 8 (Nat.le_refl _)
  rw [ti_add (by omega) (by omega)]
  omega
theorem tvF_g (hb : b < 12) (hc : rng fc 768) (ha : rng fa 1140) (hq : qOK q) (hex : vOK ex) (hey : vOK ey) {vx vy : Int32} (hx : vOK vx) (hy : vOK vy) {S : BST} (hS : gOK b 0 S) : candOK b 0 (tvF fc fa b q ex ey vx vy S) := by
  have h := tvP hb hc ha hq hex hey hx hy (S.2.2.2 - tvW q ex ey vx vy)
  unfold tvF
  split
  · rename_i hle
    rw [Int32.le_iff_toInt_le] at hle
    rcases hS with ⟨hS, -⟩ | hS
    · rw [hS, ti_M] at hle; rw [hS] at h; omega
    · exact hS
  · exact ⟨Or.inl ⟨rfl, rfl⟩, fun h => absurd h (by show ¬ 3 ≤ 1; omega), ⟨hx, hy⟩, by show 1 ≤ (tvW q ex ey vx vy + _).toInt; omega, h.2⟩
theorem tvF_e (hb : b < 12) (hc : rng fc 768) (ha : rng fa 1140) (hq : qOK q) (hex : vOK ex) (hey : vOK ey) {vx vy : Int32} (hx : vOK vx) (hy : vOK vy) {S S' : BST} (h1 : S.2.2.2 = 1048576) (h2 : S'.2.2.2 = 1048576) : tvF fc fa b q ex ey vx vy S = tvF fc fa b q ex ey vx vy S' := by
  have h := tvP hb hc ha hq hex hey hx hy (1048576 - tvW q ex ey vx vy)
  have hn : ¬ (1048576 : Int32) ≤ tvW q ex ey vx vy + dmL fc fa b vx vy (1048576 - tvW q ex ey vx vy) 8 := by
    rw [Int32.le_iff_toInt_le, ti_M]; omega
  unfold tvF
  rw [h1, h2, if_neg hn, if_neg hn]
theorem svX_g (hb : b < 12) (hc : rng fc 768) (ha : rng fa 1140) (hq : qOK q) (hex : vOK ex) (hey : vOK ey) {i : Nat} (hi : i < 7) {S : BST} (hS : gOK b 0 S) : ∀ j, j ≤ 7 → gOK b 0 (svX fc fa b q ex ey i S j)
  | 0, _ => hS
  | j + 1, hj => Or.inr (tvF_g hb hc ha hq hex hey (vI_ok0 j (by omega)) (vI_ok0 i hi) (svX_g hb hc ha hq hex hey hi hS j (by omega)))
theorem svX_e (hb : b < 12) (hc : rng fc 768) (ha : rng fa 1140) (hq : qOK q) (hex : vOK ex) (hey : vOK ey) {i : Nat} (hi : i < 7) {S S' : BST} (h1 : S.2.2.2 = 1048576) (h2 : S'.2.2.2 = 1048576) : ∀ j, j < 7 → svX fc fa b q ex ey i S (j + 1) = svX fc fa b q ex ey i S' (j + 1)
  | 0, _ => tvF_e hb hc ha hq hex hey (vI_ok0 0 (by omega)) (vI_ok0 i hi) h1 h2
  | j + 1, hj => by
    show tvF fc fa b q ex ey _ _ (svX fc fa b q ex ey i S (j + 1)) = tvF fc fa b q ex ey _ _ (svX fc fa b q ex ey i S' (j + 1))
    rw [svX_e hb hc ha hq hex hey hi h1 h2 j (by omega)]
theorem svY_g (hb : b < 12) (hc : rng fc 768) (ha : rng fa 1140) (hq : qOK q) (hex : vOK ex) (hey : vOK ey) {S : BST} (hS : gOK b 0 S) : ∀ i, i ≤ 7 → gOK b 0 (svY fc fa b q ex ey S i)
  | 0, _ => hS
  | i + 1, hi => svX_g hb hc ha hq hex hey (by omega) (svY_g hb hc ha hq hex hey hS i (by omega)) 7 (Nat.le_refl _)
theorem svY_e (hb : b < 12) (hc : rng fc 768) (ha : rng fa 1140) (hq : qOK q) (hex : vOK ex) (hey : vOK ey) {S S' : BST} (h1 : S.2.2.2 = 1048576) (h2 : S'.2.2.2 = 1048576) : ∀ i, i < 7 → svY fc fa b q ex ey S (i + 1) = svY fc fa b q ex ey S' (i + 1)
  | 0, _ => svX_e hb hc ha hq hex hey (by omega) h1 h2 6 (by omega)
  | i + 1, hi => by
    show svX fc fa b q ex ey (i + 1) (svY fc fa b q ex ey S (i + 1)) 7 = svX fc fa b q ex ey (i + 1) (svY fc fa b q ex ey S' (i + 1)) 7
    rw [svY_e hb hc ha hq hex hey h1 h2 i (by omega)]
theorem twF_g (hb : b < 12) (hc : rng fc 768) (ha : rng fa 1140) (hq : qOK q) (hex : vOK ex) (hey : vOK ey) {vx vy : Int32} {S : BST} (hS : gOK b 0 S) : gOK b 0 (twF fc fa b q ex ey vx vy S) := by
  unfold twF
  split
  · exact hS
  · rename_i h1
    split
    · exact hS
    · rename_i h2
      exact Or.inr (tvF_g hb hc ha hq hex hey (isW_ok rfl h1) (isW_ok rfl h2) hS)
theorem swX_g (hb : b < 12) (hc : rng fc 768) (ha : rng fa 1140) (hq : qOK q) (hex : vOK ex) (hey : vOK ey) {mx my : Int32} {i : Nat} {S : BST} (hS : gOK b 0 S) : ∀ j, gOK b 0 (swX fc fa b q ex ey mx my i S j)
  | 0 => hS
  | j + 1 => twF_g hb hc ha hq hex hey (swX_g hb hc ha hq hex hey hS j)
theorem swY_g (hb : b < 12) (hc : rng fc 768) (ha : rng fa 1140) (hq : qOK q) (hex : vOK ex) (hey : vOK ey) {mx my : Int32} {S : BST} (hS : gOK b 0 S) : ∀ i, gOK b 0 (swY fc fa b q ex ey mx my S i)
  | 0 => hS
  | i + 1 => swX_g hb hc ha hq hex hey (swY_g hb hc ha hq hex hey hS i) 3
theorem svF_g (hb : b < 12) (hc : rng fc 768) (ha : rng fa 1140) (hq : qOK q) (hex : vOK ex) (hey : vOK ey) {S : BST} (hS : gOK b 0 S) : gOK b 0 (svF fc fa b q ex ey S) := swY_g hb hc ha hq hex hey (svY_g hb hc ha hq hex hey hS 7 (Nat.le_refl _)) 3
theorem svF_e (hb : b < 12) (hc : rng fc 768) (ha : rng fa 1140) (hq : qOK q) (hex : vOK ex) (hey : vOK ey) {S S' : BST} (h1 : S.2.2.2 = 1048576) (h2 : S'.2.2.2 = 1048576) : svF fc fa b q ex ey S = svF fc fa b q ex ey S' := by
  unfold svF
  rw [svY_e hb hc ha hq hex hey h1 h2 6 (by omega)]
end VEC
/-- the choice, out of what stood there before -/
def cbT (fc fa fm : Nat → Int32) (b : Nat) (q ky ex ey : Int32) (S : BST) : BST :=
  if b % 4 = 0 then tkF fc fa fm b 2 q (if ky = 0 then svF fc fa b q ex ey (S.1, S.2.1, S.2.2.1, 1048576) else (S.1, S.2.1, S.2.2.1, 1048576))
  else tkF fc fa fm b 4 (2 * q) (tkF fc fa fm b 3 q (tkF fc fa fm b 2 q (if ky = 0 then svF fc fa b q ex ey (S.1, S.2.1, S.2.2.1, 1048576) else (S.1, S.2.1, S.2.2.1, 1048576))))
def cbS (fc fa fm : Nat → Int32) (b : Nat) (q ky ex ey : Int32) : BST := cbT fc fa fm b q ky ex ey (2, 0, 0, 1048576)
theorem ti_2q {q : Int32} (hq : qOK q) : 1 ≤ (2 * q).toInt ∧ (2 * q).toInt ≤ 120 := by
  have h1 := hq.1
  have h2 := hq.2
  rw [ti_mul (by rw [ti_2]; omega) (by rw [ti_2]; omega), ti_2]
  omega
theorem qOK_120 {q : Int32} (hq : qOK q) : 1 ≤ q.toInt ∧ q.toInt ≤ 120 := ⟨hq.1, Int.le_trans hq.2 (by omega)⟩
theorem cb_good {fc fa fm : Nat → Int32} {b : Nat} {q ky ex ey : Int32} {S : BST} (hb : b < 12) (hc : rng fc 768) (ha : ky = 0 → rng fa 1140) (hm : rng fm 768) (hq : qOK q) (hex : vOK ex) (hey : vOK ey) (hS : stOK S) : candOK b ky (cbT fc fa fm b q ky ex ey S) ∧ cbT fc fa fm b q ky ex ey S = cbS fc fa fm b q ky ex ey := by
  have g1 : gOK b ky (if ky = 0 then svF fc fa b q ex ey (S.1, S.2.1, S.2.2.1, 1048576) else (S.1, S.2.1, S.2.2.1, 1048576)) := by
    split
    · rename_i h; subst h
      exact svF_g hb hc (ha rfl) hq hex hey (Or.inl ⟨rfl, hS⟩)
    · exact Or.inl ⟨rfl, hS⟩
  have e1 : tkF fc fa fm b 2 q (if ky = 0 then svF fc fa b q ex ey (S.1, S.2.1, S.2.2.1, 1048576) else (S.1, S.2.1, S.2.2.1, 1048576)) = tkF fc fa fm b 2 q (if ky = 0 then svF fc fa b q ex ey (2, 0, 0, 1048576) else (2, 0, 0, 1048576)) := by
    split
    · rename_i h; subst h
      rw [svF_e hb hc (ha rfl) hq hex hey (S := (S.1, S.2.1, S.2.2.1, 1048576)) (S' := (2, 0, 0, 1048576)) rfl rfl]
    · have h := dfF_rng hb hc (ftF_rng (kd := 2) (vx := 0) (vy := 0) (fa := fa) hb (fun h => absurd h (by omega)) vOK_0 vOK_0 (fun h => absurd h (by omega)) hm) 64 (Nat.le_refl _)
      have hq1 := hq.1
      have hq2 := hq.2
      have hn : ¬ (1048576 : Int32) ≤ dfF fc (ftF 2 b 0 0 fa fm) b 64 + q := by
        rw [Int32.le_iff_toInt_le, ti_M, ti_add (by omega) (by omega)]; omega
      unfold tkF
      rw [if_neg hn, if_neg hn]
  have g2 := tkF_ok (fa := fa) hb hc hm (Nat.le_refl 2) (by omega) (fun h => absurd h (by omega)) (qOK_120 hq) g1
  unfold cbS cbT
  constructor
  · split
    · exact g2
    · rename_i h4
      exact tkF_ok hb hc hm (by omega) (by omega) (fun _ => h4) (ti_2q hq) (Or.inr (tkF_ok hb hc hm (by omega) (by omega) (fun _ => h4) (qOK_120 hq) (Or.inr g2)))
  · split
    · exact e1
    · rw [e1]
