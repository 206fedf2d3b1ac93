/-! PURE, 1: small numbers stay small -/
theorem ti_add {a b : Int32} (h1 : -2147483648 ≤ a.toInt + b.toInt) (h2 : a.toInt + b.toInt < 2147483648) : (a + b).toInt = a.toInt + b.toInt := by
  rw [Int32.toInt_add]; exact Int.bmod_eq_of_le (by omega) (by omega)
theorem ti_sub {a b : Int32} (h1 : -2147483648 ≤ a.toInt - b.toInt) (h2 : a.toInt - b.toInt < 2147483648) : (a - b).toInt = a.toInt - b.toInt := by
  rw [Int32.toInt_sub]; exact Int.bmod_eq_of_le (by omega) (by omega)
theorem ti_mul {a b : Int32} (h1 : -2147483648 ≤ a.toInt * b.toInt) (h2 : a.toInt * b.toInt < 2147483648) : (a * b).toInt = a.toInt * b.toInt := by
  rw [Int32.toInt_mul]; exact Int.bmod_eq_of_le (by omega) (by omega)
theorem ti_0 : (0 : Int32).toInt = 0 := by decide
theorem ti_1 : (1 : Int32).toInt = 1 := by decide
theorem ti_2 : (2 : Int32).toInt = 2 := by decide
theorem ti_4 : (4 : Int32).toInt = 4 := by decide
theorem ti_6 : (6 : Int32).toInt = 6 := by decide
theorem ti_m6 : (-6 : Int32).toInt = -6 := by decide
theorem ti_128 : (128 : Int32).toInt = 128 := by decide
theorem ti_255 : (255 : Int32).toInt = 255 := by decide
theorem ti_M : (1048576 : Int32).toInt = 1048576 := by decide
def rng (f : Nat → Int32) (n : Nat) : Prop := ∀ k, k < n → 0 ≤ (f k).toInt ∧ (f k).toInt ≤ 255
theorem absI_le {x : Int32} {B : Int} (h1 : -B ≤ x.toInt) (h2 : x.toInt ≤ B) (hB : B < 2147483648) : 0 ≤ (absI x).toInt ∧ (absI x).toInt ≤ B := by
  unfold absI
  split
  · rename_i h
    rw [Int32.le_iff_toInt_le, ti_0] at h
    exact ⟨h, h2⟩
  · rename_i h
    rw [Int32.le_iff_toInt_le, ti_0] at h
    rw [ti_sub (by rw [ti_0]; omega) (by rw [ti_0]; omega), ti_0]
    omega
theorem abs_diff {a b : Int32} (ha : 0 ≤ a.toInt ∧ a.toInt ≤ 255) (hb : 0 ≤ b.toInt ∧ b.toInt ≤ 255) : 0 ≤ (absI (a - b)).toInt ∧ (absI (a - b)).toInt ≤ 255 := by
  have e : (a - b).toInt = a.toInt - b.toInt := ti_sub (by omega) (by omega)
  exact absI_le (by omega) (by omega) (by omega)
theorem clip_rng (x : Int32) : 0 ≤ (clipI x).toInt ∧ (clipI x).toInt ≤ 255 := by
  unfold clipI
  split
  · rename_i h
    rw [Int32.le_iff_toInt_le, ti_0] at h
    split
    · rename_i h2
      rw [Int32.le_iff_toInt_le, ti_255] at h2
      exact ⟨h, h2⟩
    · rw [ti_255]; omega
  · rw [ti_0]; omega
theorem dfF_rng {fc ff : Nat → Int32} {b : Nat} (hb : b < 12) (hc : rng fc 768) (hf : rng ff 64) : ∀ n, n ≤ 64 → 0 ≤ (dfF fc ff b n).toInt ∧ (dfF fc ff b n).toInt ≤ 255 * n
  | 0, _ => by show 0 ≤ (0 : Int32).toInt ∧ (0 : Int32).toInt ≤ _; rw [ti_0]; omega
  | n + 1, hn => by
    have h1 := dfF_rng hb hc hf n (by omega)
    have h2 := abs_diff (hc (b / 4 * 8 * 32 + b % 4 * 8 + n / 8 * 32 + n % 8) (by omega)) (hf n (by omega))
    show 0 ≤ (dfF fc ff b n + _).toInt ∧ (dfF fc ff b n + _).toInt ≤ _
    rw [ti_add (by omega) (by omega)]
    omega
theorem betw_rng {f : Nat → Int32} {k r w : Nat} (hf : rng f 1140) (h : k + w + r < 1140) : 0 ≤ (betweenF f k r w).toInt ∧ (betweenF f k r w).toInt ≤ 255 := by
  have h1 := hf k (by omega)
  have h2 := hf (k + r) (by omega)
  have h3 := hf (k + w) (by omega)
  have h4 := hf (k + w + r) h
  have e1 : (f k + f (k + r)).toInt = (f k).toInt + (f (k + r)).toInt := ti_add (by omega) (by omega)
  have e2 : (f (k + w) + f (k + w + r)).toInt = (f (k + w)).toInt + (f (k + w + r)).toInt := ti_add (by omega) (by omega)
  have e3 : (f k + f (k + r) + (f (k + w) + f (k + w + r))).toInt = (f k).toInt + (f (k + r)).toInt + ((f (k + w)).toInt + (f (k + w + r)).toInt) := by rw [ti_add (by omega) (by omega), e1, e2]
  have e4 : (f k + f (k + r) + (f (k + w) + f (k + w + r)) + 2).toInt = (f k).toInt + (f (k + r)).toInt + ((f (k + w)).toInt + (f (k + w + r)).toInt) + 2 := by rw [ti_add (by rw [ti_2]; omega) (by rw [ti_2]; omega), e3, ti_2]
  have e5 : ((f k + f (k + r) + (f (k + w) + f (k + w + r)) + 2) >>> ((2 : Int32) &&& 31)).toInt = (f k + f (k + r) + (f (k + w) + f (k + w + r)) + 2).toInt >>> 2 := pk_shr _ _ 2 (by decide)
  have e6 : 0 ≤ ((f k + f (k + r) + (f (k + w) + f (k + w + r)) + 2) >>> ((2 : Int32) &&& 31)).toInt ∧ ((f k + f (k + r) + (f (k + w) + f (k + w + r)) + 2) >>> ((2 : Int32) &&& 31)).toInt ≤ 255 := by
    rw [e5, e4, Int.shiftRight_eq_div_pow]
    omega
  unfold betweenF
  split
  · split
    · exact h1
    · exact e6
  · exact e6
theorem mvF_rng {fa : Nat → Int32} {b : Nat} {vx vy : Int32} (hb : b < 12) (hx : vOK vx) (hy : vOK vy) (hf : rng fa 1140) : rng (mvF fa b vx vy) 64 := fun k hk => betw_rng hf (stA_lt hb hx hy (by omega) (by omega))
theorem colF_rng {fm : Nat → Int32} {p : Nat} (hf : rng fm 768) (hp : p + 224 < 768) : ∀ n, n ≤ 8 → 0 ≤ (colF fm p n).toInt ∧ (colF fm p n).toInt ≤ 255 * n
  | 0, _ => by show 0 ≤ (0 : Int32).toInt ∧ (0 : Int32).toInt ≤ _; rw [ti_0]; omega
  | n + 1, hn => by
    have h1 := colF_rng hf hp n (by omega)
    have h2 := hf (p + n * 32) (by omega)
    show 0 ≤ (colF fm p n + fm (p + n * 32)).toInt ∧ (colF fm p n + fm (p + n * 32)).toInt ≤ _
    rw [ti_add (by omega) (by omega)]
    omega
theorem flat_rng {fm : Nat → Int32} {b : Nat} (hb : b < 12) (hf : rng fm 768) : 0 ≤ (flatF fm b).toInt ∧ (flatF fm b).toInt ≤ 255 := by
  unfold flatF
  split
  · rw [ti_128]; omega
  · have h1 := colF_rng (p := b / 4 * 8 * 32 + b % 4 * 8 - 1) hf (by omega) 8 (Nat.le_refl _)
    have e : (colF fm (b / 4 * 8 * 32 + b % 4 * 8 - 1) 8 + 4).toInt = (colF fm (b / 4 * 8 * 32 + b % 4 * 8 - 1) 8).toInt + 4 := by rw [ti_add (by rw [ti_4]; omega) (by rw [ti_4]; omega), ti_4]
    rw [pk_shr _ _ 3 (by decide), e, Int.shiftRight_eq_div_pow]
    omega
theorem ftF_rng {kd b : Nat} {vx vy : Int32} {fa fm : Nat → Int32} (hb : b < 12) (h3 : 3 ≤ kd → ¬ b % 4 = 0) (hx : vOK vx) (hy : vOK vy) (ha : kd < 2 → rng fa 1140) (hm : rng fm 768) : rng (ftF kd b vx vy fa fm) 64 := by
  intro k hk
  unfold ftF
  split
  · rename_i h; exact mvF_rng hb hx hy (ha h) k hk
  · split
    · exact flat_rng hb hm
    · split
      · have := h3 (by omega)
        exact hm _ (by omega)
      · exact clip_rng _
theorem ahF_rng {fp : Nat → Int32} (h : rng fp 768) : rng (ahF fp) 1140 := fun k _ => h _ (by have := cy_le (k / 38); have := cx_le (k % 38); omega)
theorem mkF_rng (ff fv : Nat → Int32) (b : Nat) (q : Int32) (n : Nat) : rng (mkF ff fv b q) n := fun _ _ => clip_rng _
theorem mdB_rng {g fm : Nat → Int32} {b : Nat} (hg : rng g 64) (hm : rng fm 768) : rng (mdB g fm b) 768 := by
  intro p hp
  unfold mdB
  split
  · exact hg _ (pos_lt p)
  · exact hm p hp
theorem dmC_rng {fc fa : Nat → Int32} {b : Nat} {vx vy : Int32} {ln : Nat} {s : Int32} (hb : b < 12) (hx : vOK vx) (hy : vOK vy) (hc : rng fc 768) (ha : rng fa 1140) (hl : ln < 8) (hs : 0 ≤ s.toInt ∧ s.toInt ≤ 20000) : ∀ c, c ≤ 8 → 0 ≤ (dmC fc fa b vx vy ln s c).toInt ∧ (dmC fc fa b vx vy ln s c).toInt ≤ s.toInt + 255 * c
  | 0, _ => by show 0 ≤ s.toInt ∧ s.toInt ≤ _; omega
  | c + 1, hn => by
    have h1 := dmC_rng hb hx hy hc ha hl hs c (by omega)
    have h2 := abs_diff (hc (b / 4 * 8 * 32 + b % 4 * 8 + ln * 32 + c) (by omega)) (betw_rng ha (stA_lt hb hx hy hl (show c < 8 by omega)))
    show 0 ≤ (dmC fc fa b vx vy ln s c + _).toInt ∧ (dmC fc fa b vx vy ln s c + _).toInt ≤ _
    rw [ti_add (by omega) (by omega)]
    omega
theorem dmL_rng {fc fa : Nat → Int32} {b : Nat} {vx vy lim : Int32} (hb : b < 12) (hx : vOK vx) (hy : vOK vy) (hc : rng fc 768) (ha : rng fa 1140) : ∀ n, n ≤ 8 → 0 ≤ (dmL fc fa b vx vy lim n).toInt ∧ (dmL fc fa b vx vy lim n).toInt ≤ 2040 * n
  | 0, _ => by show 0 ≤ (0 : Int32).toInt ∧ (0 : Int32).toInt ≤ _; rw [ti_0]; omega
  | n + 1, hn => by
    have h1 := dmL_rng (lim := lim) hb hx hy hc ha n (by omega)
    have h2 := dmC_rng (ln := n) hb hx hy hc ha (by omega) (s := dmL fc fa b vx vy lim n) (by omega) 8 (Nat.le_refl _)
    show 0 ≤ (if dmL fc fa b vx vy lim n < lim then _ else _ : Int32).toInt ∧ (if dmL fc fa b vx vy lim n < lim then _ else _ : Int32).toInt ≤ _
    split <;> omega
-- smoothing keeps the range
theorem sm_e {r s : Int32} (hr : 0 ≤ r.toInt ∧ r.toInt ≤ 255) (hs : 0 ≤ s.toInt ∧ s.toInt ≤ 255) : (0 ≤ (r + (s - r) / 4).toInt ∧ (r + (s - r) / 4).toInt ≤ 255) ∧ (0 ≤ (s - (s - r) / 4).toInt ∧ (s - (s - r) / 4).toInt ≤ 255) := by
  have e1 : (s - r).toInt = s.toInt - r.toInt := ti_sub (by omega) (by omega)
  have e2 : ((s - r) / 4).toInt = (s.toInt - r.toInt).tdiv 4 := by
    rw [Int32.toInt_div, e1, ti_4]
    rcases Int.le_total 0 (s.toInt - r.toInt) with h | h
    · rw [Int.tdiv_eq_ediv_of_nonneg h]
      exact Int.bmod_eq_of_le (by omega) (by omega)
    · have : s.toInt - r.toInt = -(r.toInt - s.toInt) := by omega
      rw [this, Int.neg_tdiv, Int.tdiv_eq_ediv_of_nonneg (by omega)]
      exact Int.bmod_eq_of_le (by omega) (by omega)
  have e3 : (0 ≤ s.toInt - r.toInt ∧ (s.toInt - r.toInt).tdiv 4 = (s.toInt - r.toInt) / 4) ∨ (s.toInt - r.toInt ≤ 0 ∧ (s.toInt - r.toInt).tdiv 4 = -((r.toInt - s.toInt) / 4)) := by
    rcases Int.le_total 0 (s.toInt - r.toInt) with h | h
    · exact Or.inl ⟨h, Int.tdiv_eq_ediv_of_nonneg h⟩
    · refine Or.inr ⟨h, ?_⟩
      have : s.toInt - r.toInt = -(r.toInt - s.toInt) := by omega
      rw [this, Int.neg_tdiv, Int.tdiv_eq_ediv_of_nonneg (by omega)]
  have e4 : (r + (s - r) / 4).toInt = r.toInt + (s.toInt - r.toInt).tdiv 4 := by rw [ti_add (by rw [e2]; omega) (by rw [e2]; omega), e2]
  have e5 : (s - (s - r) / 4).toInt = s.toInt - (s.toInt - r.toInt).tdiv 4 := by rw [ti_sub (by rw [e2]; omega) (by rw [e2]; omega), e2]
  rw [e4, e5]
  omega
theorem smA_rng {f : Nat → Int32} {a g : Nat} {q : Int32} (hf : rng f 768) (h1 : 2 * g ≤ a) (h2 : a + g < 768) : rng (smA f a g q) 768 := by
  unfold smA
  split
  · exact hf
  · split
    · exact hf
    · split
      · exact hf
      · intro k hk
        have h := sm_e (hf (a - g) (by omega)) (hf a (by omega))
        unfold upd
        split
        · exact h.2
        · split
          · exact h.1
          · exact hf k hk
theorem smV_rng {q : Int32} {f : Nat → Int32} {x : Nat} (hf : rng f 768) (hx : 2 ≤ x) (hx2 : x < 31) : ∀ y, y ≤ 24 → rng (smV q f x y) 768
  | 0, _ => hf
  | y + 1, hy => smA_rng (smV_rng hf hx hx2 y (by omega)) (by omega) (by omega)
theorem smO_rng {q : Int32} {f : Nat → Int32} (hf : rng f 768) : ∀ i, i ≤ 3 → rng (smO q f i) 768
  | 0, _ => hf
  | i + 1, hi => smV_rng (smO_rng hf i (by omega)) (by omega) (by omega) 24 (Nat.le_refl _)
theorem smH_rng {q : Int32} {f : Nat → Int32} {y : Nat} (hf : rng f 768) (hy : 2 ≤ y) (hy2 : y < 23) : ∀ x, x ≤ 32 → rng (smH q f y x) 768
  | 0, _ => hf
  | x + 1, hx => smA_rng (smH_rng hf hy hy2 x (by omega)) (by omega) (by omega)
theorem smP_rng {q : Int32} {f : Nat → Int32} (hf : rng f 768) : ∀ i, i ≤ 2 → rng (smP q f i) 768
  | 0, _ => hf
  | i + 1, hi => smH_rng (smP_rng hf i (by omega)) (by omega) (by omega) 32 (Nat.le_refl _)
theorem smF_rng {q : Int32} {f : Nat → Int32} (hf : rng f 768) : rng (smF q f) 768 := smP_rng (smO_rng hf 3 (Nat.le_refl _)) 2 (Nat.le_refl _)
