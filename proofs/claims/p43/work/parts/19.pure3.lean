/-! PURE, 3: the blocks one behind another; what stood in the arrays before doesn't matter -/
def kindOf (R : BST) (ex ey z : Int32) : Nat := if R.1 = 1 ∧ (R.2.1 = ex ∧ R.2.2.1 = ey) ∧ ¬ z = 0 then 0 else R.1
/-- made, kinds, vx, vy, prices, levels -/
abbrev CST : Type := (Nat → Int32) × (Nat → Nat) × (Nat → Int32) × (Nat → Int32) × (Nat → Int32) × (Nat → Int32)
def csR (fc fa : Nat → Int32) (q : Int32) (b : Nat) (ex ey : Int32) (R : BST) (X : CST) : CST :=
  (mdB (mkF (ftF R.1 b R.2.1 R.2.2.1 fa X.1) (segTo (lvB fc (ftF R.1 b R.2.1 R.2.2.1 fa X.1) b q) X.2.2.2.2.2 (b * 64) 64) b q) X.1 b,
   va_up X.2.1 b (kindOf R ex ey (allZ (lvB fc (ftF R.1 b R.2.1 R.2.2.1 fa X.1) b q) 64)),
   upd X.2.2.1 b R.2.1, upd X.2.2.2.1 b R.2.2.1, upd X.2.2.2.2.1 b R.2.2.2,
   segTo (lvB fc (ftF R.1 b R.2.1 R.2.2.1 fa X.1) b q) X.2.2.2.2.2 (b * 64) 64)
def csStep (fc fa : Nat → Int32) (q ky : Int32) (b : Nat) (X : CST) : CST :=
  csR fc fa q b (exF X.2.2.1 b) (exF X.2.2.2.1 b) (cbS fc fa X.1 b q ky (exF X.2.2.1 b) (exF X.2.2.2.1 b)) X
def csIt (fc fa : Nat → Int32) (q ky : Int32) (X : CST) : Nat → CST
  | 0 => X
  | b + 1 => csStep fc fa q ky b (csIt fc fa q ky X b)
def cs0 : CST := (fun _ => 0, fun _ => 0, fun _ => 0, fun _ => 0, fun _ => 0, fun _ => 0)
def csC (fc fa : Nat → Int32) (q ky : Int32) : CST := csIt fc fa q ky cs0 12
-- congruences
theorem t4_c {f g : Nat → Int32} (h : ∀ k, k < 16 → f k = g k) {i d : Nat} (hi : i + 3 * d < 16) : ∀ k, k < 16 → t4 f i d k = t4 g i d k := by
  intro k hk
  unfold t4 upd
  rw [h i (by omega), h (i + d) (by omega), h (i + 2 * d) (by omega), h (i + 3 * d) hi, h k hk]
theorem tq1_c {f g : Nat → Int32} (h : ∀ k, k < 16 → f k = g k) : ∀ n, n ≤ 4 → ∀ k, k < 16 → tq1 f n k = tq1 g n k
  | 0, _ => h
  | n + 1, hn => t4_c (tq1_c h n (by omega)) (by omega)
theorem tq2_c {f g : Nat → Int32} (h : ∀ k, k < 16 → f k = g k) : ∀ n, n ≤ 4 → ∀ k, k < 16 → tq2 f n k = tq2 g n k
  | 0, _ => h
  | n + 1, hn => t4_c (tq2_c h n (by omega)) (by omega)
theorem turnQ_c {f g : Nat → Int32} (h : ∀ k, k < 16 → f k = g k) : ∀ k, k < 16 → turnQ f k = turnQ g k := tq2_c (tq1_c h 4 (Nat.le_refl _)) 4 (Nat.le_refl _)
theorem lvB_c {fc ff gg : Nat → Int32} {b : Nat} {q : Int32} (h : ∀ k, k < 64 → ff k = gg k) : ∀ k, k < 64 → lvB fc ff b q k = lvB fc gg b q k := by
  intro k hk
  unfold lvB
  rw [turnQ_c (f := rsF fc ff b (k / 16)) (g := rsF fc gg b (k / 16)) (fun a ha => by unfold rsF; rw [h _ (pib_lt (by omega) ha)]) _ (ordN_lt _ (by omega))]
theorem allZ_eq {g g' : Nat → Int32} (h : ∀ k, k < 64 → g k = g' k) : ∀ n, n ≤ 64 → allZ g n = allZ g' n
  | 0, _ => rfl
  | n + 1, hn => by
    show (if allZ g n = 0 then (0 : Int32) else if g n = 0 then 1 else 0) = (if allZ g' n = 0 then (0 : Int32) else if g' n = 0 then 1 else 0)
    rw [allZ_eq h n (by omega), h n (by omega)]
theorem dfF_c {fc ff gg : Nat → Int32} {b : Nat} (h : ∀ k, k < 64 → ff k = gg k) : ∀ n, n ≤ 64 → dfF fc ff b n = dfF fc gg b n
  | 0, _ => rfl
  | n + 1, hn => by
    show dfF fc ff b n + _ = dfF fc gg b n + _
    rw [dfF_c h n (by omega), h n (by omega)]
theorem segTo_in {g f : Nat → Int32} {s n k : Nat} (h1 : s ≤ k) (h2 : k < s + n) : segTo g f s n k = g (k - s) := if_pos ⟨h1, h2⟩
theorem segTo_out {g f : Nat → Int32} {s n k : Nat} (h : k < s ∨ s + n ≤ k) : segTo g f s n k = f k := if_neg (by omega)
theorem mkF_c {ff gg lv lv' : Nat → Int32} {fv fv' : Nat → Int32} {b : Nat} {q : Int32} (h : ∀ k, k < 64 → ff k = gg k) (hl : ∀ k, k < 64 → lv k = lv' k) : ∀ k, k < 64 → mkF ff (segTo lv fv (b * 64) 64) b q k = mkF gg (segTo lv' fv' (b * 64) 64) b q k := by
  intro k hk
  have h1 := qrO_lt hk
  unfold mkF
  rw [h k hk, turnQ_c (f := dqF (segTo lv fv (b * 64) 64) b q (qrO k)) (g := dqF (segTo lv' fv' (b * 64) 64) b q (qrO k)) (fun a ha => by
    have h2 := inv_lt a ha
    unfold dqF
    rw [segTo_in (by omega) (by omega), segTo_in (by omega) (by omega), hl _ (by omega)]) _ (atO_lt k)]
section AGREE
variable {fc fa : Nat → Int32} {b : Nat}
theorem colF_c {f g : Nat → Int32} {p : Nat} (h : ∀ i, i < 8 → f (p + i * 32) = g (p + i * 32)) : ∀ n, n ≤ 8 → colF f p n = colF g p n
  | 0, _ => rfl
  | n + 1, hn => by
    show colF f p n + _ = colF g p n + _
    rw [colF_c h n (by omega), h n (by omega)]
theorem ftF_c {f g : Nat → Int32} {kd : Nat} {vx vy : Int32} (hb : b < 12) (h3 : 3 ≤ kd → ¬ b % 4 = 0) (h : ∀ p, p < 768 → blk p < b → f p = g p) : ∀ k, k < 64 → ftF kd b vx vy fa f k = ftF kd b vx vy fa g k := by
  intro k hk
  have col : ¬ b % 4 = 0 → ∀ i, i < 8 → f (b / 4 * 8 * 32 + b % 4 * 8 - 1 + i * 32) = g (b / 4 * 8 * 32 + b % 4 * 8 - 1 + i * 32) := fun h4 i hi => h _ (by omega) (by unfold blk; omega)
  have col4 : ¬ b % 4 = 0 → ∀ i, i < 8 → f (b / 4 * 8 * 32 + b % 4 * 8 - 1 + i * 32 - 4) = g (b / 4 * 8 * 32 + b % 4 * 8 - 1 + i * 32 - 4) := fun h4 i hi => h _ (by omega) (by unfold blk; omega)
  unfold ftF
  split
  · rfl
  · split
    · show flatF f b = flatF g b
      unfold flatF
      split
      · rfl
      · rename_i h4
        rw [colF_c (col h4) 8 (Nat.le_refl _)]
    · split
      · exact col (h3 (by omega)) _ (by omega)
      · unfold trF
        rw [col (h3 (by omega)) _ (by omega), col4 (h3 (by omega)) _ (by omega)]
theorem tkF_c {f g : Nat → Int32} {kd : Nat} {ex : Int32} {S : BST} (hb : b < 12) (h3 : 3 ≤ kd → ¬ b % 4 = 0) (h : ∀ p, p < 768 → blk p < b → f p = g p) : tkF fc fa f b kd ex S = tkF fc fa g b kd ex S := by
  unfold tkF
  rw [dfF_c (fc := fc) (b := b) (ftF_c (fa := fa) (vx := 0) (vy := 0) hb h3 h) 64 (Nat.le_refl _)]
theorem cbS_c {f g : Nat → Int32} {q ky ex ey : Int32} (hb : b < 12) (h : ∀ p, p < 768 → blk p < b → f p = g p) : cbS fc fa f b q ky ex ey = cbS fc fa g b q ky ex ey := by
  unfold cbS cbT
  split
  · exact tkF_c hb (fun h => absurd h (by omega)) h
  · rename_i h4
    rw [tkF_c (f := f) (g := g) (kd := 2) hb (fun h => absurd h (by omega)) h, tkF_c (f := f) (g := g) (kd := 3) hb (fun _ => h4) h, tkF_c (f := f) (g := g) (kd := 4) hb (fun _ => h4) h]
end AGREE
def agC (i : Nat) (X Y : CST) : Prop := (∀ p, p < 768 → blk p < i → X.1 p = Y.1 p) ∧ (∀ j, j < i → X.2.1 j = Y.2.1 j ∧ X.2.2.1 j = Y.2.2.1 j ∧ X.2.2.2.1 j = Y.2.2.2.1 j ∧ X.2.2.2.2.1 j = Y.2.2.2.2.1 j) ∧ ∀ k, k < i * 64 → X.2.2.2.2.2 k = Y.2.2.2.2.2 k
/-- what is kept all along -/
def csOK (X : CST) : Prop := rng X.1 768 ∧ ∀ j, j < 12 → vOK (X.2.2.1 j) ∧ vOK (X.2.2.2.1 j)
theorem exF_ok {fx : Nat → Int32} {b : Nat} (hb : b < 12) (h : ∀ j, j < 12 → vOK (fx j)) : vOK (exF fx b) := by
  unfold exF
  split
  · exact vOK_0
  · exact h _ (by omega)
section STEP
variable {fc fa : Nat → Int32} {q ky : Int32} (hc : rng fc 768) (ha : ky = 0 → rng fa 1140) (hq : qOK q)
theorem cs_cand {b : Nat} {X : CST} (hb : b < 12) (hc : rng fc 768) (ha : ky = 0 → rng fa 1140) (hq : qOK q) (hX : csOK X) : candOK b ky (cbS fc fa X.1 b q ky (exF X.2.2.1 b) (exF X.2.2.2.1 b)) := by
  have h := cb_good (S := (2, 0, 0, 1048576)) (ky := ky) hb hc ha hX.1 hq (exF_ok hb (fun j hj => (hX.2 j hj).1)) (exF_ok hb (fun j hj => (hX.2 j hj).2)) ⟨vOK_0, vOK_0⟩
  exact h.1
theorem csR_ok {b : Nat} {X : CST} {ex ey : Int32} {R : BST} (hR : stOK R) (hX : csOK X) : csOK (csR fc fa q b ex ey R X) := by
  refine ⟨mdB_rng (mkF_rng _ _ _ _ _) hX.1, fun j hj => ?_⟩
  have h := hX.2 j hj
  show vOK (upd X.2.2.1 b R.2.1 j) ∧ vOK (upd X.2.2.2.1 b R.2.2.1 j)
  unfold upd
  split
  · exact hR
  · exact h
theorem csIt_ok {X : CST} (hc : rng fc 768) (ha : ky = 0 → rng fa 1140) (hq : qOK q) (hX : csOK X) : ∀ i, i ≤ 12 → csOK (csIt fc fa q ky X i)
  | 0, _ => hX
  | i + 1, hi => csR_ok (cs_cand (by omega) hc ha hq (csIt_ok hc ha hq hX i (by omega))).2.2.1 (csIt_ok hc ha hq hX i (by omega))
theorem cs0_ok : csOK cs0 := ⟨fun k _ => by show 0 ≤ (0 : Int32).toInt ∧ (0 : Int32).toInt ≤ 255; rw [ti_0]; omega, fun j _ => ⟨vOK_0, vOK_0⟩⟩
theorem cs_ag {b : Nat} {X Y : CST} (hb : b < 12) (hc : rng fc 768) (ha : ky = 0 → rng fa 1140) (hq : qOK q) (hX : csOK X) (hA : agC b X Y) : agC (b + 1) (csStep fc fa q ky b X) (csStep fc fa q ky b Y) := by
  obtain ⟨a1, a2, a3⟩ := hA
  have e1 : exF X.2.2.1 b = exF Y.2.2.1 b := by
    unfold exF
    split
    · rfl
    · exact (a2 _ (by omega)).2.1
  have e2 : exF X.2.2.2.1 b = exF Y.2.2.2.1 b := by
    unfold exF
    split
    · rfl
    · exact (a2 _ (by omega)).2.2.1
  have hcd := cs_cand (fc := fc) (fa := fa) (q := q) (ky := ky) hb hc ha hq hX
  have e3 : cbS fc fa X.1 b q ky (exF X.2.2.1 b) (exF X.2.2.2.1 b) = cbS fc fa Y.1 b q ky (exF Y.2.2.1 b) (exF Y.2.2.2.1 b) := by rw [cbS_c (f := X.1) (g := Y.1) hb a1, e1, e2]
  unfold csStep
  rw [← e3, ← e1, ← e2]
  generalize cbS fc fa X.1 b q ky (exF X.2.2.1 b) (exF X.2.2.2.1 b) = R at hcd
  generalize exF X.2.2.1 b = ex
  generalize exF X.2.2.2.1 b = ey
  have hf := ftF_c (fa := fa) (vx := R.2.1) (vy := R.2.2.1) hb hcd.2.1 a1
  have hl := lvB_c (fc := fc) (b := b) (q := q) hf
  refine ⟨fun p hp hbp => ?_, fun j hj => ?_, fun k hk => ?_⟩
  · show mdB _ X.1 b p = mdB _ Y.1 b p
    unfold mdB
    by_cases h : blk p = b
    · rw [if_pos h, if_pos h]
      exact mkF_c hf hl _ (pos_lt p)
    · rw [if_neg h, if_neg h]
      exact a1 p hp (by omega)
  · show va_up X.2.1 b _ j = va_up Y.2.1 b _ j ∧ upd X.2.2.1 b _ j = upd Y.2.2.1 b _ j ∧ upd X.2.2.2.1 b _ j = upd Y.2.2.2.1 b _ j ∧ upd X.2.2.2.2.1 b _ j = upd Y.2.2.2.2.1 b _ j
    unfold va_up upd
    by_cases h : j = b
    · rw [if_pos h, if_pos h, if_pos h, if_pos h, if_pos h, if_pos h, if_pos h, if_pos h, allZ_eq hl 64 (Nat.le_refl _)]
      exact ⟨rfl, rfl, rfl, rfl⟩
    · rw [if_neg h, if_neg h, if_neg h, if_neg h, if_neg h, if_neg h, if_neg h, if_neg h]
      exact a2 j (by omega)
  · show segTo _ X.2.2.2.2.2 (b * 64) 64 k = segTo _ Y.2.2.2.2.2 (b * 64) 64 k
    rcases Nat.lt_or_ge k (b * 64) with h | h
    · rw [segTo_out (Or.inl h), segTo_out (Or.inl h)]
      exact a3 k h
    · rw [segTo_in h (by omega), segTo_in h (by omega)]
      exact hl _ (by omega)
theorem csIt_ag {X Y : CST} (hc : rng fc 768) (ha : ky = 0 → rng fa 1140) (hq : qOK q) (hX : csOK X) : ∀ i, i ≤ 12 → agC i (csIt fc fa q ky X i) (csIt fc fa q ky Y i)
  | 0, _ => ⟨fun p _ h => absurd h (Nat.not_lt_zero _), fun j h => absurd h (Nat.not_lt_zero _), fun k h => absurd h (by omega)⟩
  | i + 1, hi => cs_ag (by omega) hc ha hq (csIt_ok hc ha hq hX i (by omega)) (csIt_ag hc ha hq hX i (by omega))
end STEP
-- the error
def erF (fc fm : Nat → Int32) : Nat → Int32
  | 0 => 0
  | n + 1 => erF fc fm n + (fc n - fm n) * (fc n - fm n)
theorem erF_rng {fc fm : Nat → Int32} (hc : rng fc 768) (hm : rng fm 768) : ∀ n, n ≤ 768 → 0 ≤ (erF fc fm n).toInt ∧ (erF fc fm n).toInt ≤ 65025 * n
  | 0, _ => by show 0 ≤ (0 : Int32).toInt ∧ (0 : Int32).toInt ≤ _; rw [ti_0]; omega
  | n + 1, hn => by
    have h1 := erF_rng hc hm n (by omega)
    have h2 := hc n (by omega)
    have h3 := hm n (by omega)
    have e : (fc n - fm n).toInt = (fc n).toInt - (fm n).toInt := ti_sub (by omega) (by omega)
    obtain ⟨w, hw⟩ : ∃ w, w = (fc n).toInt - (fm n).toInt := ⟨_, rfl⟩
    have hw1 : -255 ≤ w ∧ w ≤ 255 := by omega
    have hsq : 0 ≤ w * w ∧ w * w ≤ 65025 := by
      rcases Int.le_total 0 w with h | h
      · have := Int.mul_le_mul hw1.2 hw1.2 h (by omega)
        have := Int.mul_nonneg h h
        omega
      · have e2 : w * w = (-w) * (-w) := by rw [Int.neg_mul_neg]
        have := Int.mul_le_mul (show -w ≤ 255 by omega) (show -w ≤ 255 by omega) (show 0 ≤ -w by omega) (by omega)
        have := Int.mul_nonneg (show 0 ≤ -w by omega) (show 0 ≤ -w by omega)
        omega
    have e3 : ((fc n - fm n) * (fc n - fm n)).toInt = w * w := by rw [ti_mul (by rw [e, ← hw]; omega) (by rw [e, ← hw]; omega), e, ← hw]
    show 0 ≤ (erF fc fm n + _).toInt ∧ (erF fc fm n + _).toInt ≤ _
    rw [ti_add (by omega) (by omega)]
    omega
def mdF (fc fa : Nat → Int32) (q ky sm : Int32) : Nat → Int32 := if sm = 0 then (csC fc fa q ky).1 else smF q (csC fc fa q ky).1
theorem mdF_rng {fc fa : Nat → Int32} {q ky sm : Int32} (hc : rng fc 768) (ha : ky = 0 → rng fa 1140) (hq : qOK q) : rng (mdF fc fa q ky sm) 768 := by
  have h := (csIt_ok hc ha hq cs0_ok 12 (Nat.le_refl _)).1
  unfold mdF
  split
  · exact h
  · exact smF_rng h
