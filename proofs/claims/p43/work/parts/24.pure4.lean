/-! PURE, 4: what holds of a coded picture; the viewer's picture is the coder's -/
section CSF
variable {fc fa : Nat → Int32} {q ky : Int32}
theorem up_ne9 {α : Type} {f : Nat → α} {i j : Nat} {x : α} (h : ¬ j = i) : va_up f i x j = f j := by unfold va_up; rw [if_neg h]
theorem up_eq9 {α : Type} {f : Nat → α} {i : Nat} {x : α} : va_up f i x i = x := by unfold va_up; rw [if_pos rfl]
theorem upd_ne9 {f : Nat → Int32} {i j : Nat} {x : Int32} (h : ¬ j = i) : upd f i x j = f j := by unfold upd; rw [if_neg h]
theorem upd_eq9 {f : Nat → Int32} {i : Nat} {x : Int32} : upd f i x i = x := by unfold upd; rw [if_pos rfl]
/-- later blocks leave block b as it was coded -/
theorem csIt_st (X : CST) (b : Nat) : ∀ d, (csIt fc fa q ky X (b + 1 + d)).2.1 b = (csIt fc fa q ky X (b + 1)).2.1 b ∧ (csIt fc fa q ky X (b + 1 + d)).2.2.1 b = (csIt fc fa q ky X (b + 1)).2.2.1 b ∧ (csIt fc fa q ky X (b + 1 + d)).2.2.2.1 b = (csIt fc fa q ky X (b + 1)).2.2.2.1 b ∧ (csIt fc fa q ky X (b + 1 + d)).2.2.2.2.1 b = (csIt fc fa q ky X (b + 1)).2.2.2.2.1 b ∧ ∀ k, k < 64 → (csIt fc fa q ky X (b + 1 + d)).2.2.2.2.2 (b * 64 + k) = (csIt fc fa q ky X (b + 1)).2.2.2.2.2 (b * 64 + k)
  | 0 => ⟨rfl, rfl, rfl, rfl, fun _ _ => rfl⟩
  | d + 1 => by
    obtain ⟨h1, h2, h3, h4, h5⟩ := csIt_st X b d
    have hne : ¬ b = b + 1 + d := by omega
    refine ⟨?_, ?_, ?_, ?_, fun k hk => ?_⟩
    · exact Eq.trans (up_ne9 hne) h1
    · exact Eq.trans (upd_ne9 hne) h2
    · exact Eq.trans (upd_ne9 hne) h3
    · exact Eq.trans (upd_ne9 hne) h4
    · exact Eq.trans (segTo_out (Or.inl (show b * 64 + k < (b + 1 + d) * 64 by omega))) (h5 k hk)
theorem csIt_ex (X : CST) {b : Nat} (hb : b < 12) : exF (csIt fc fa q ky X 12).2.2.1 b = exF (csIt fc fa q ky X b).2.2.1 b ∧ exF (csIt fc fa q ky X 12).2.2.2.1 b = exF (csIt fc fa q ky X b).2.2.2.1 b := by
  unfold exF
  by_cases h : b % 4 = 0
  · rw [if_pos h, if_pos h, if_pos h, if_pos h]; exact ⟨rfl, rfl⟩
  · rw [if_neg h, if_neg h, if_neg h, if_neg h]
    have h1 := csIt_st (fc := fc) (fa := fa) (q := q) (ky := ky) X (b - 1) (12 - b)
    rw [show b - 1 + 1 + (12 - b) = 12 by omega, show b - 1 + 1 = b by omega] at h1
    exact ⟨h1.2.1, h1.2.2.1⟩
/-- block b of a coded picture: its choice R, and what came of it -/
theorem cs_fact {b : Nat} (hb : b < 12) (hc : rng fc 768) (ha : ky = 0 → rng fa 1140) (hq : qOK q) : ∃ R : BST, candOK b ky R ∧
    (csC fc fa q ky).2.1 b = kindOf R (exF (csC fc fa q ky).2.2.1 b) (exF (csC fc fa q ky).2.2.2.1 b) (allZ (lvB fc (ftF R.1 b R.2.1 R.2.2.1 fa (csIt fc fa q ky cs0 b).1) b q) 64) ∧
    (csC fc fa q ky).2.2.1 b = R.2.1 ∧ (csC fc fa q ky).2.2.2.1 b = R.2.2.1 ∧ (csC fc fa q ky).2.2.2.2.1 b = R.2.2.2 ∧
    (∀ k, k < 64 → (csC fc fa q ky).2.2.2.2.2 (b * 64 + k) = lvB fc (ftF R.1 b R.2.1 R.2.2.1 fa (csIt fc fa q ky cs0 b).1) b q k) ∧
    (csIt fc fa q ky cs0 (b + 1)).1 = mdB (mkF (ftF R.1 b R.2.1 R.2.2.1 fa (csIt fc fa q ky cs0 b).1) (csIt fc fa q ky cs0 (b + 1)).2.2.2.2.2 b q) (csIt fc fa q ky cs0 b).1 b ∧
    (∀ k, k < 64 → (csIt fc fa q ky cs0 (b + 1)).2.2.2.2.2 (b * 64 + k) = (csC fc fa q ky).2.2.2.2.2 (b * 64 + k)) := by
  have hX := csIt_ok hc ha hq cs0_ok b (by omega)
  have hcd := cs_cand (fc := fc) (fa := fa) (q := q) (ky := ky) hb hc ha hq hX
  have hst := csIt_st (fc := fc) (fa := fa) (q := q) (ky := ky) cs0 b (11 - b)
  rw [show b + 1 + (11 - b) = 12 by omega] at hst
  obtain ⟨s1, s2, s3, s4, s5⟩ := hst
  obtain ⟨e1, e2⟩ := csIt_ex (fc := fc) (fa := fa) (q := q) (ky := ky) cs0 hb
  refine ⟨_, hcd, ?_, Eq.trans s2 upd_eq9, Eq.trans s3 upd_eq9, Eq.trans s4 upd_eq9, fun k hk => ?_, rfl, fun k hk => (s5 k hk).symm⟩
  · refine Eq.trans s1 (Eq.trans up_eq9 ?_)
    show kindOf _ (exF (csIt fc fa q ky cs0 b).2.2.1 b) (exF (csIt fc fa q ky cs0 b).2.2.2.1 b) _ = kindOf _ (exF (csIt fc fa q ky cs0 12).2.2.1 b) (exF (csIt fc fa q ky cs0 12).2.2.2.1 b) _
    rw [e1, e2]
  · refine Eq.trans (s5 k hk) (Eq.trans (segTo_in (by omega) (by omega)) ?_)
    rw [show b * 64 + k - b * 64 = k by omega]
theorem allZ_all {g : Nat → Int32} : ∀ {n : Nat}, ¬ allZ g n = 0 → ∀ k, k < n → g k = 0
  | 0, _, k, hk => absurd hk (Nat.not_lt_zero _)
  | n + 1, h, k, hk => by
    have h2 : ¬ (if allZ g n = 0 then (0 : Int32) else if g n = 0 then 1 else 0) = 0 := h
    by_cases h3 : allZ g n = 0
    · rw [if_pos h3] at h2; exact absurd rfl h2
    · rw [if_neg h3] at h2
      by_cases h4 : g n = 0
      · rcases Nat.lt_or_ge k n with z | z
        · exact allZ_all h3 k z
        · rw [show k = n by omega]; exact h4
      · rw [if_neg h4] at h2; exact absurd rfl h2
theorem lnz_all {fv : Nat → Int32} {b : Nat} : ∀ {n : Nat}, (∀ k, k < n → fv (b * 64 + k) = 0) → lnz fv b n = 0
  | 0, _ => rfl
  | n + 1, h => by
    show lnz fv b n + (if fv (b * 64 + n) = 0 then 0 else 1) = 0
    rw [if_pos (h n (by omega)), lnz_all (n := n) (fun k hk => h k (by omega))]
theorem kindOf_0 {R : BST} {ex ey z : Int32} (h1 : 1 ≤ R.1) (h : kindOf R ex ey z = 0) : R.1 = 1 ∧ (R.2.1 = ex ∧ R.2.2.1 = ey) ∧ ¬ z = 0 := by
  unfold kindOf at h
  split at h
  · assumption
  · omega
theorem kindOf_or (R : BST) (ex ey z : Int32) : (kindOf R ex ey z = 0 ∧ R.1 = 1) ∨ kindOf R ex ey z = R.1 := by
  unfold kindOf
  split
  · rename_i h; exact Or.inl ⟨rfl, h.1⟩
  · exact Or.inr rfl
theorem cs_sound {b : Nat} (hb : b < 12) (hc : rng fc 768) (ha : ky = 0 → rng fa 1140) (hq : qOK q) :
    (csC fc fa q ky).2.1 b < 5 ∧ ((csC fc fa q ky).2.1 b = 0 → lnz (csC fc fa q ky).2.2.2.2.2 b 64 = 0) ∧ (b % 4 = 0 → (csC fc fa q ky).2.1 b ≤ 2) ∧ (¬ ky = 0 → 2 ≤ (csC fc fa q ky).2.1 b) ∧
    (2 ≤ (csC fc fa q ky).2.1 b → (csC fc fa q ky).2.2.1 b = 0 ∧ (csC fc fa q ky).2.2.2.1 b = 0) ∧ vOK ((csC fc fa q ky).2.2.1 b) ∧ vOK ((csC fc fa q ky).2.2.2.1 b) ∧
    ((csC fc fa q ky).2.1 b = 0 → b % 4 = 0 → (csC fc fa q ky).2.2.1 b = 0 ∧ (csC fc fa q ky).2.2.2.1 b = 0) ∧ 1 ≤ ((csC fc fa q ky).2.2.2.2.1 b).toInt := by
  obtain ⟨R, ⟨h1, h2, h3, h4, h5⟩, k1, k2, k3, k4, k5, -, -⟩ := cs_fact hb hc ha hq
  have hR1 : 1 ≤ R.1 := by omega
  rw [k2, k3, k4]
  refine ⟨?_, fun z => ?_, fun z => ?_, fun z => ?_, fun z => ?_, h3.1, h3.2, fun z zb => ?_, h4⟩
  · rw [k1]
    rcases kindOf_or R (exF (csC fc fa q ky).2.2.1 b) (exF (csC fc fa q ky).2.2.2.1 b) (allZ (lvB fc (ftF R.1 b R.2.1 R.2.2.1 fa (csIt fc fa q ky cs0 b).1) b q) 64) with h | h <;> omega
  · rw [k1] at z
    obtain ⟨-, -, g3⟩ := kindOf_0 hR1 z
    exact lnz_all (fun k hk => by rw [k5 k hk]; exact allZ_all g3 k hk)
  · rw [k1]
    rcases kindOf_or R (exF (csC fc fa q ky).2.2.1 b) (exF (csC fc fa q ky).2.2.2.1 b) (allZ (lvB fc (ftF R.1 b R.2.1 R.2.2.1 fa (csIt fc fa q ky cs0 b).1) b q) 64) with h | h
    · omega
    · rcases Nat.lt_or_ge R.1 3 with g | g
      · omega
      · exact absurd z (h2 g)
  · rw [k1]
    have g2 : 2 ≤ R.1 := by
      rcases h1 with ⟨-, g⟩ | g
      · exact absurd g z
      · exact g.1
    rcases kindOf_or R (exF (csC fc fa q ky).2.2.1 b) (exF (csC fc fa q ky).2.2.2.1 b) (allZ (lvB fc (ftF R.1 b R.2.1 R.2.2.1 fa (csIt fc fa q ky cs0 b).1) b q) 64) with h | h <;> omega
  · rw [k1] at z
    rcases kindOf_or R (exF (csC fc fa q ky).2.2.1 b) (exF (csC fc fa q ky).2.2.2.1 b) (allZ (lvB fc (ftF R.1 b R.2.1 R.2.2.1 fa (csIt fc fa q ky cs0 b).1) b q) 64) with h | h
    · omega
    · rcases h1 with ⟨g, -⟩ | g
      · omega
      · exact ⟨g.2.2.1, g.2.2.2⟩
  · rw [k1] at z
    obtain ⟨-, g2, -⟩ := kindOf_0 hR1 z
    rw [g2.1, g2.2]
    unfold exF
    rw [if_pos zb, if_pos zb]
    exact ⟨rfl, rfl⟩
theorem cs_k3 {b : Nat} (hb : b < 12) (hc : rng fc 768) (ha : ky = 0 → rng fa 1140) (hq : qOK q) : 3 ≤ (csC fc fa q ky).2.1 b → ¬ b % 4 = 0 := fun h z => by
  have := (cs_sound hb hc ha hq).2.2.1 z
  omega
theorem ftF_a {fa fa' fm : Nat → Int32} {kd b : Nat} {vx vy : Int32} (hb : b < 12) (hx : vOK vx) (hy : vOK vy) (h : kd < 2 → ∀ k, k < 1140 → fa' k = fa k) : ∀ k, k < 64 → ftF kd b vx vy fa' fm k = ftF kd b vx vy fa fm k := by
  intro k hk
  unfold ftF
  split
  · rename_i h2
    have h3 := h h2
    have h4 := stA_lt hb hx hy (i := k / 8) (j := k % 8) (by omega) (by omega)
    unfold mvF betweenF
    rw [h3 _ (by omega), h3 _ (by omega), h3 _ (by omega), h3 _ (by omega)]
  · rfl
theorem ftF_01 (b : Nat) (vx vy : Int32) (fa fm : Nat → Int32) : ftF 0 b vx vy fa fm = ftF 1 b vx vy fa fm := rfl
/-- what the viewer makes of a whole picture, block by block -/
theorem vw_cs {fa' fg : Nat → Int32} (hc : rng fc 768) (ha : ky = 0 → rng fa 1140) (hq : qOK q) (hg : ∀ j, j < 3 → ¬ fg j = 0) (hfa : ky = 0 → ∀ k, k < 1140 → fa' k = fa k) : ∀ i, i ≤ 12 → vwIt fa' fg (csC fc fa q ky).2.1 (csC fc fa q ky).2.2.1 (csC fc fa q ky).2.2.2.1 (csC fc fa q ky).2.2.2.2.2 q (fun _ => 0) i = (csIt fc fa q ky cs0 i).1
  | 0, _ => rfl
  | b + 1, hi => by
    have ih := vw_cs hc ha hq hg hfa b (by omega)
    have hb : b < 12 := by omega
    obtain ⟨R, ⟨h1, h2, h3, h4, h5⟩, k1, k2, k3, k4, k5, k6, k7⟩ := cs_fact hb hc ha hq
    rw [k6]
    show vwB _ _ _ _ _ _ _ b (vwIt _ _ _ _ _ _ _ _ b) = _
    rw [ih]
    unfold vwB
    rw [if_neg (hg _ (by omega))]
    have hf : ftF ((csC fc fa q ky).2.1 b) b R.2.1 R.2.2.1 fa' (csIt fc fa q ky cs0 b).1 = ftF R.1 b R.2.1 R.2.2.1 fa' (csIt fc fa q ky cs0 b).1 := by
      rw [k1]
      rcases kindOf_or R (exF (csC fc fa q ky).2.2.1 b) (exF (csC fc fa q ky).2.2.2.1 b) (allZ (lvB fc (ftF R.1 b R.2.1 R.2.2.1 fa (csIt fc fa q ky cs0 b).1) b q) 64) with h | h
      · rw [h.1, h.2]; rfl
      · rw [h]
    rw [k2, k3, hf]
    have hfe := ftF_a (fm := (csIt fc fa q ky cs0 b).1) (kd := R.1) hb h3.1 h3.2 (fun h => by
      rcases h1 with ⟨-, g⟩ | g
      · exact hfa g
      · omega)
    funext p
    unfold mdB
    split
    · unfold mkF
      have hp := pos_lt p
      have hd : dqF (csC fc fa q ky).2.2.2.2.2 b q (qrO (pos p)) = dqF (csC fc fa q ky).2.2.2.2.2 b q (qrO (pos p)) := rfl
      rw [hfe _ hp]
      have hqr := qrO_lt hp
      rw [turnQ_c (f := dqF (csC fc fa q ky).2.2.2.2.2 b q (qrO (pos p))) (g := dqF (csIt fc fa q ky cs0 (b + 1)).2.2.2.2.2 b q (qrO (pos p))) (fun a ha9 => by
        have h9 := inv_lt a ha9
        unfold dqF
        have e9 := k7 (qrO (pos p) * 16 + invN a) (by omega)
        rw [← Nat.add_assoc] at e9
        rw [e9]) _ (atO_lt _)]
    · rfl
end CSF
theorem bgN_3 {fg : Nat → Int32} : ∀ {n : Nat}, (∀ j, j < n → ¬ fg j = 0) → bgN fg n = n
  | 0, _ => rfl
  | n + 1, h => by
    show bgN fg n + (if fg n = 0 then 0 else 1) = n + 1
    rw [if_neg (h n (by omega)), bgN_3 (n := n) (fun j hj => h j (by omega))]
/-- what was handed over whole is shown as it was coded -/
theorem vw_right {fc fa fa' fg : Nat → Int32} {q ky sm : Int32} (hc : rng fc 768) (ha : ky = 0 → rng fa 1140) (hq : qOK q) (hg : ∀ j, j < 3 → ¬ fg j = 0) (hfa : ky = 0 → ∀ k, k < 1140 → fa' k = fa k) : vwF fa' fg (csC fc fa q ky).2.1 (csC fc fa q ky).2.2.1 (csC fc fa q ky).2.2.2.1 (csC fc fa q ky).2.2.2.2.2 q sm = mdF fc fa q ky sm := by
  unfold vwF mdF
  rw [vw_cs hc ha hq hg hfa 12 (Nat.le_refl _), bgN_3 hg, if_neg (by omega : ¬ (3 : Nat) = 0)]
  rfl
theorem distF_0 {f g : Nat → Int32} : ∀ {n : Nat}, (∀ k, k < n → f k = g k) → distF f g n = 0
  | 0, _ => rfl
  | n + 1, h => by
    show distF f g n + absI (f n - g n) = 0
    rw [distF_0 (n := n) (fun k hk => h k (by omega)), h n (by omega), Int32.sub_self]
    rfl
theorem ahF_c {f g : Nat → Int32} (h : ∀ k, k < 768 → f k = g k) : ∀ k, k < 1140 → ahF f k = ahF g k := fun k _ => h _ (by have := cy_le (k / 38); have := cx_le (k % 38); omega)
