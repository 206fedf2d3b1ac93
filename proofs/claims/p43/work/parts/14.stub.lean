-- places
def pib (q a : Nat) : Nat := (q / 2 * 4 + a / 4) * 8 + (q % 2 * 4 + a % 4)
theorem pib_lt {q a : Nat} (hq : q < 4) (ha : a < 16) : pib q a < 64 := by unfold pib; omega
def ptN (b k : Nat) : Nat := b / 4 * 8 * 32 + b % 4 * 8 + k / 8 * 32 + k % 8
theorem ptN_lt {b k : Nat} (hb : b < 12) (hk : k < 64) : ptN b k < 768 := by unfold ptN; omega
def blk (p : Nat) : Nat := p / 256 * 4 + p % 32 / 8
def pos (p : Nat) : Nat := p / 32 % 8 * 8 + p % 8
theorem blk_pt {b k : Nat} (hk : k < 64) : blk (ptN b k) = b := by unfold blk ptN; omega
theorem pos_pt {b k : Nat} (hk : k < 64) : pos (ptN b k) = k := by unfold pos ptN; omega
theorem pos_lt (p : Nat) : pos p < 64 := by unfold pos; omega
theorem pt_blk (p : Nat) : ptN (blk p) (pos p) = p := by unfold blk pos ptN; omega
theorem blk_lt {p : Nat} (h : p < 768) : blk p < 12 := by unfold blk; omega
def qrO (k : Nat) : Nat := k / 8 / 4 * 2 + k % 8 / 4
def atO (k : Nat) : Nat := k / 8 % 4 * 4 + k % 4
theorem qrO_pib {q a : Nat} (hq : q < 4) (ha : a < 16) : qrO (pib q a) = q := by unfold qrO pib; omega
theorem atO_pib {q a : Nat} (hq : q < 4) (ha : a < 16) : atO (pib q a) = a := by unfold atO pib; omega
theorem pib_O {k : Nat} (hk : k < 64) : pib (qrO k) (atO k) = k := by unfold qrO atO pib; omega
theorem qrO_lt {k : Nat} (hk : k < 64) : qrO k < 4 := by unfold qrO; omega
theorem atO_lt (k : Nat) : atO k < 16 := by unfold atO; omega
def invN (k : Nat) : Nat := [0, 1, 5, 6, 2, 4, 7, 12, 3, 8, 11, 13, 9, 10, 14, 15].getD k 16
theorem ordN_lt : ∀ k, k < 16 → ordN k < 16 := by decide +kernel
theorem inv_ord : ∀ k, k < 16 → invN (ordN k) = k := by decide +kernel
theorem ord_inv : ∀ k, k < 16 → ordN (invN k) = k := by decide +kernel
theorem inv_lt : ∀ k, k < 16 → invN k < 16 := by decide +kernel
theorem inv_16 {k : Nat} (h : 16 ≤ k) : invN k = 16 := by
  unfold invN
  rw [List.getD_eq_getElem?_getD, List.getElem?_eq_none (by simpa using h)]
  rfl
-- transforms
def t4 (f : Nat → Int32) (i g : Nat) : Nat → Int32 := upd (upd (upd (upd f i (f i + f (i + g) + f (i + 2 * g) + f (i + 3 * g))) (i + g) (f i + f (i + g) - f (i + 2 * g) - f (i + 3 * g))) (i + 2 * g) (f i - f (i + g) - f (i + 2 * g) + f (i + 3 * g))) (i + 3 * g) (f i - f (i + g) + f (i + 2 * g) - f (i + 3 * g))
def tq1 (f : Nat → Int32) : Nat → (Nat → Int32)
  | 0 => f
  | n + 1 => t4 (tq1 f n) n 4
def tq2 (f : Nat → Int32) : Nat → (Nat → Int32)
  | 0 => f
  | n + 1 => t4 (tq2 f n) (n * 4) 1
def turnQ (f : Nat → Int32) : Nat → Int32 := tq2 (tq1 f 4) 4
def lvI (s q : Int32) : Int32 := if 1 ≤ 4 * q then (if 0 ≤ s then (absI s + 4 * q / 3) / (4 * q) else -((absI s + 4 * q / 3) / (4 * q))) else 0
-- levels
def rsF (fc ff : Nat → Int32) (b qr a : Nat) : Int32 := fc (ptN b (pib qr a)) - ff (pib qr a)
def lvB (fc ff : Nat → Int32) (b : Nat) (q : Int32) (k : Nat) : Int32 := lvI (turnQ (rsF fc ff b (k / 16)) (ordN (k % 16))) q
def segTo (g f : Nat → Int32) (s n : Nat) : Nat → Int32 := fun k => if s ≤ k ∧ k < s + n then g (k - s) else f k
theorem segTo_0 (g f : Nat → Int32) (s : Nat) : segTo g f s 0 = f := by
  funext k; unfold segTo; rw [if_neg (by omega)]
theorem segTo_s (g f : Nat → Int32) (s n : Nat) {x : Int32} (h : x = g n) : upd (segTo g f s n) (s + n) x = segTo g f s (n + 1) := by
  subst h
  funext k
  unfold upd segTo
  by_cases h1 : k = s + n
  · subst h1
    rw [if_pos rfl, if_pos ⟨by omega, by omega⟩, show s + n - s = n by omega]
  · rw [if_neg h1]
    by_cases h2 : s ≤ k ∧ k < s + n
    · rw [if_pos h2, if_pos ⟨h2.1, by omega⟩]
    · rw [if_neg h2, if_neg (by omega)]
def allZ (g : Nat → Int32) : Nat → Int32
  | 0 => 1
  | n + 1 => if allZ g n = 0 then 0 else if g n = 0 then 1 else 0
theorem allZ_a {g : Nat → Int32} {n : Nat} {x : Int32} (h : x = allZ g n) (c : x = 0) : 0 = allZ g (n + 1) := by
  show _ = if allZ g n = 0 then (0 : Int32) else _
  rw [← h, if_pos c]
theorem allZ_b {g : Nat → Int32} {n : Nat} {x : Int32} (h : x = allZ g n) (c : ¬ x = 0) (c2 : ¬ g n = 0) : 0 = allZ g (n + 1) := by
  show _ = if allZ g n = 0 then (0 : Int32) else if g n = 0 then 1 else 0
  rw [← h, if_neg c, if_neg c2]
theorem allZ_c {g : Nat → Int32} {n : Nat} {x : Int32} (h : x = allZ g n) (c : ¬ x = 0) (c2 : g n = 0) : 1 = allZ g (n + 1) := by
  show _ = if allZ g n = 0 then (0 : Int32) else if g n = 0 then 1 else 0
  rw [← h, if_neg c, if_pos c2]
theorem allZ_01 (g : Nat → Int32) : ∀ n, allZ g n = 0 ∨ allZ g n = 1
  | 0 => Or.inr rfl
  | n + 1 => by
    show (if allZ g n = 0 then (0 : Int32) else if g n = 0 then 1 else 0) = 0 ∨ (if allZ g n = 0 then (0 : Int32) else if g n = 0 then 1 else 0) = 1
    split
    · exact Or.inl rfl
    · split
      · exact Or.inr rfl
      · exact Or.inl rfl
theorem nar01 {x : Int32} (h : x = 0 ∨ x = 1) : narrow .boolean (.int x) = .int x := by
  rcases h with h | h <;> subst h <;> rfl
theorem lvB_at (fc ff : Nat → Int32) (b : Nat) (q : Int32) {qr pl : Nat} (h : pl < 16) : lvB fc ff b q (qr * 16 + pl) = lvI (turnQ (rsF fc ff b qr) (ordN pl)) q := by
  unfold lvB
  rw [show (qr * 16 + pl) / 16 = qr by omega, show (qr * 16 + pl) % 16 = pl by omega]
-- blocks
def permTo (g f : Nat → Int32) (n : Nat) : Nat → Int32 := fun k => if invN k < n then g k else f k
theorem permTo_0 (g f : Nat → Int32) : permTo g f 0 = f := by funext k; simp [permTo]
theorem permTo_s (g f : Nat → Int32) {n : Nat} (hn : n < 16) {x : Int32} (h : x = g (ordN n)) : upd (permTo g f n) (ordN n) x = permTo g f (n + 1) := by
  subst h
  funext k
  unfold upd permTo
  by_cases h1 : k = ordN n
  · subst h1
    rw [if_pos rfl, inv_ord n hn, if_pos (by omega)]
  · rw [if_neg h1]
    have h3 : invN k ≠ n := by
      intro h
      rcases Nat.lt_or_ge k 16 with q | q
      · exact h1 (by rw [← h, ord_inv k q])
      · rw [inv_16 q] at h; omega
    by_cases h2 : invN k < n
    · rw [if_pos h2, if_pos (by omega)]
    · rw [if_neg h2, if_neg (by omega)]
theorem permTo_at (g f : Nat → Int32) {k : Nat} (h : k < 16) : permTo g f 16 k = g k := if_pos (inv_lt k h)
def dqF (fv : Nat → Int32) (b : Nat) (q : Int32) (qr k : Nat) : Int32 := fv (b * 64 + qr * 16 + invN k) * 4 * q
def mkF (ff fv : Nat → Int32) (b : Nat) (q : Int32) (k : Nat) : Int32 := clipI (ff k + (turnQ (dqF fv b q (qrO k)) (atO k) + 8) >>> ((4 : Int32) &&& 31))
def mdTo (z : Nat → Nat) (g fm : Nat → Int32) (b n : Nat) : Nat → Int32 := fun p => if blk p = b ∧ z (pos p) < n then g (pos p) else fm p
/-- block b anew, all others as they were -/
def mdB (g fm : Nat → Int32) (b : Nat) : Nat → Int32 := fun p => if blk p = b then g (pos p) else fm p
theorem mdTo_0 (z : Nat → Nat) (g fm : Nat → Int32) (b : Nat) : mdTo z g fm b 0 = fm := by funext p; simp [mdTo]
theorem mdTo_s {z : Nat → Nat} (g fm : Nat → Int32) {b n k : Nat} (hk : k < 64) (hz : z k = n) (hi : ∀ j, j < 64 → z j = n → j = k) {x : Int32} (h : x = g k) : upd (mdTo z g fm b n) (ptN b k) x = mdTo z g fm b (n + 1) := by
  subst h
  funext p
  unfold upd mdTo
  by_cases h1 : p = ptN b k
  · subst h1
    rw [if_pos rfl, blk_pt hk, pos_pt hk, if_pos ⟨rfl, by omega⟩]
  · rw [if_neg h1]
    by_cases hb : blk p = b
    · have h3 : z (pos p) ≠ n := fun h => h1 (by rw [← hi _ (pos_lt p) h, ← hb, pt_blk])
      by_cases h2 : z (pos p) < n
      · rw [if_pos ⟨hb, h2⟩, if_pos ⟨hb, by omega⟩]
      · rw [if_neg (fun h => h2 h.2), if_neg (fun h => h2 (by have := h.2; omega))]
    · rw [if_neg (fun h => hb h.1), if_neg (fun h => hb h.1)]
theorem mdTo_64 {z : Nat → Nat} (g fm : Nat → Int32) (b : Nat) (hz : ∀ k, k < 64 → z k < 64) : mdTo z g fm b 64 = mdB g fm b := by
  funext p
  unfold mdTo mdB
  by_cases hb : blk p = b
  · rw [if_pos hb, if_pos ⟨hb, hz _ (pos_lt p)⟩]
  · rw [if_neg hb, if_neg (fun h => hb h.1)]
def zO (k : Nat) : Nat := qrO k * 16 + atO k
theorem zO_lt : ∀ k, k < 64 → zO k < 64 := fun k hk => by have := qrO_lt hk; have := atO_lt k; unfold zO; omega
theorem zO_pib {q a : Nat} (hq : q < 4) (ha : a < 16) : zO (pib q a) = q * 16 + a := by unfold zO; rw [qrO_pib hq ha, atO_pib hq ha]
theorem zO_inj {q a : Nat} (ha : a < 16) : ∀ j, j < 64 → zO j = q * 16 + a → j = pib q a := by
  intro j hj h
  have h1 := atO_lt j
  unfold zO at h
  rw [← pib_O hj, show qrO j = q by omega, show atO j = a by omega]
theorem mkF_at {ff fv : Nat → Int32} {b : Nat} {q : Int32} {qr a : Nat} (hq : qr < 4) (ha : a < 16) : mkF ff fv b q (pib qr a) = clipI (ff (pib qr a) + (turnQ (dqF fv b q qr) a + 8) >>> ((4 : Int32) &&& 31)) := by
  unfold mkF
  rw [qrO_pib hq ha, atO_pib hq ha]
theorem dqF_at {fv : Nat → Int32} {b : Nat} {q : Int32} {qr n : Nat} (hn : n < 16) : fv (b * 64 + qr * 16 + n) * 4 * q = dqF fv b q qr (ordN n) := by
  unfold dqF
  rw [inv_ord n hn]
-- smoothing
def smA (f : Nat → Int32) (a g : Nat) (q : Int32) : Nat → Int32 :=
  if 2 * (q + 2) < absI (f a - f (a - g)) then f else if q + 2 < absI (f (a - g) - f (a - 2 * g)) then f else if q + 2 < absI (f (a + g) - f a) then f else
    upd (upd f (a - g) (f (a - g) + (f a - f (a - g)) / 4)) a (f a - (f a - f (a - g)) / 4)
def smV (q : Int32) (f : Nat → Int32) (x : Nat) : Nat → (Nat → Int32)
  | 0 => f
  | y + 1 => smA (smV q f x y) (y * 32 + x) 1 q
def smO (q : Int32) (f : Nat → Int32) : Nat → (Nat → Int32)
  | 0 => f
  | i + 1 => smV q (smO q f i) (8 + 8 * i) 24
def smH (q : Int32) (f : Nat → Int32) (y : Nat) : Nat → (Nat → Int32)
  | 0 => f
  | x + 1 => smA (smH q f y x) (y * 32 + x) 32 q
def smP (q : Int32) (f : Nat → Int32) : Nat → (Nat → Int32)
  | 0 => f
  | i + 1 => smH q (smP q f i) (8 + 8 * i) 32
def smF (q : Int32) (f : Nat → Int32) : Nat → Int32 := smP q (smO q f 3) 2
set_option maxHeartbeats 4000000 in
set_option maxRecDepth 100000 in
theorem C_X3_placeInBlock (l : Launch) (dC : Nat → ClassId) (dI : Nat → Nat → Nat) (cI cZ cP : ClassId) (N0 tO : Nat) (q a : Nat) (h1 : q < 4) (h2 : a < 16) : Met l yX3_placeInBlock wsX3_placeInBlock ({ frames := 0, cells := 0, slots := 0, locals := 0 } : Room) (Gv (dC, dI) cI cZ cP N0 tO [.int (nI q), .int (nI a)] (fun H => True)) (vp_Si (fun r : Int32 => r = nI (pib q a))) 0 0 (fun _ => False) := by
  refine Met.ofW (cc := cX3_placeInBlock) (maxL := 4) (ret := (some .int)) (by decide) rfl ?_
  intro p e s m args below meth c s₁ B hml hv
  obtain ⟨rfl, hE, hP⟩ := hv
  have hx := B.exec
  have hb := B.bytes
  have hr := B.returns
  have hts := atoms_spec (ws := wsX3_placeInBlock) B.pre
  have hown : s.vm.findClass RX3 = some m.cls := findClass_of_methodNamed B.named
  have hlocks := B.notSynchronized
  have hK := hE.1
  have hNS := hE.2.1
  have hl := lv_entry ([.int (nI q), .int (nI a)]) (n := 4) (Nat.le_of_ble_eq_true rfl)
  rw [lg_entry_eq]
  generalize (lg_sl ([.int (nI q), .int (nI a)]) ++ List.replicate (4 - (lg_sl ([.int (nI q), .int (nI a)])).length) Slot.unset).toArray = ls at hl ⊢
  have hl : lv_has ls 4 [(0, .int (nI q)), (1, .int (nI a))] := hl
  refine lv_iload_n hx hb dX3_placeInBlock_0 rfl (lv_at hl 0 rfl) ?_
  refine lv_iconst (v := 2) hx hb dX3_placeInBlock_1 (by decide) ?_
  refine lv_idiv hx hb dX3_placeInBlock_2 (by decide) ?_
  refine lv_topr (show _ = nI (q / 2) from pk_div (a := q) (d := 2) (by omega) (by omega) (by omega)) ?_
  refine lv_iconst (v := 4) hx hb dX3_placeInBlock_3 (by decide) ?_
  refine lv_imul hx hb dX3_placeInBlock_4 ?_
  refine lv_topr (show _ = nI ((q / 2) * 4) from pk_mul (q / 2) 4) ?_
  refine lv_iload_n hx hb dX3_placeInBlock_5 rfl (lv_at hl 1 rfl) ?_
  refine lv_iconst (v := 4) hx hb dX3_placeInBlock_6 (by decide) ?_
  refine lv_idiv hx hb dX3_placeInBlock_7 (by decide) ?_
  refine lv_topr (show _ = nI (a / 4) from pk_div (a := a) (d := 4) (by omega) (by omega) (by omega)) ?_
  refine lv_iadd hx hb dX3_placeInBlock_8 ?_
  refine lv_topr (show _ = nI (((q / 2) * 4) + (a / 4)) from nI_add ((q / 2) * 4) (a / 4)) ?_
  refine lv_istore_n (lv' := [(2, .int (nI (((q / 2) * 4) + (a / 4)))), (0, .int (nI q)), (1, .int (nI a))]) hx hb dX3_placeInBlock_9 rfl hl (by decide) rfl (fun ls hl => ?_)
  refine lv_iload_n hx hb dX3_placeInBlock_10 rfl (lv_at hl 1 rfl) ?_
  refine lv_iconst (v := 2) hx hb dX3_placeInBlock_11 (by decide) ?_
  refine lv_irem hx hb dX3_placeInBlock_12 (by decide) ?_
  refine lv_topr (show _ = nI (q % 2) from pk_rem (a := q) (d := 2) (by omega) (by omega) (by omega)) ?_
  refine lv_iconst (v := 4) hx hb dX3_placeInBlock_13 (by decide) ?_
  refine lv_imul hx hb dX3_placeInBlock_14 ?_
  refine lv_topr (show _ = nI ((q % 2) * 4) from pk_mul (q % 2) 4) ?_
  refine lv_iload_n hx hb dX3_placeInBlock_15 rfl (lv_at hl 2 rfl) ?_
  refine lv_iconst (v := 4) hx hb dX3_placeInBlock_16 (by decide) ?_
  refine lv_irem hx hb dX3_placeInBlock_17 (by decide) ?_
  refine lv_topr (show _ = nI (a % 4) from pk_rem (a := a) (d := 4) (by omega) (by omega) (by omega)) ?_
  refine lv_iadd hx hb dX3_placeInBlock_18 ?_
  refine lv_topr (show _ = nI (((q % 2) * 4) + (a % 4)) from nI_add ((q % 2) * 4) (a % 4)) ?_
  refine lv_istore_n (lv' := [(3, .int (nI (((q % 2) * 4) + (a % 4)))), (2, .int (nI (((q / 2) * 4) + (a / 4)))), (0, .int (nI q)), (1, .int (nI a))]) hx hb dX3_placeInBlock_19 rfl hl (by decide) rfl (fun ls hl => ?_)
  refine lv_iload_n hx hb dX3_placeInBlock_20 rfl (lv_at hl 1 rfl) ?_
  refine lv_bipush (v := 8) hx hb dX3_placeInBlock_21 (by decide +kernel) ?_
  refine lv_imul hx hb dX3_placeInBlock_23 ?_
  refine lv_topr (show _ = nI ((((q / 2) * 4) + (a / 4)) * 8) from pk_mul (((q / 2) * 4) + (a / 4)) 8) ?_
  refine lv_iload_n hx hb dX3_placeInBlock_24 rfl (lv_at hl 0 rfl) ?_
  refine lv_iadd hx hb dX3_placeInBlock_25 ?_
  refine lv_topr (show _ = nI (((((q / 2) * 4) + (a / 4)) * 8) + (((q % 2) * 4) + (a % 4))) from nI_add ((((q / 2) * 4) + (a / 4)) * 8) (((q % 2) * 4) + (a % 4))) ?_
  exact W.iret (v := nI (((((q / 2) * 4) + (a / 4)) * 8) + (((q % 2) * 4) + (a % 4)))) hx hb hr (fun t ht hW => ⟨nI (((((q / 2) * 4) + (a / 4)) * 8) + (((q % 2) * 4) + (a % 4))), rfl, rfl, ht⟩) (fun _ h => by cases h) dX3_placeInBlock_26
set_option maxHeartbeats 4000000 in
set_option maxRecDepth 100000 in
theorem C_X3_pointOf (l : Launch) (dC : Nat → ClassId) (dI : Nat → Nat → Nat) (cI cZ cP : ClassId) (N0 tO : Nat) (b k : Nat) (h1 : b < 12) (h2 : k < 64) : Met l yX3_pointOf wsX3_pointOf ({ frames := 1, cells := 0, slots := 0, locals := 20 } : Room) (Gv (dC, dI) cI cZ cP N0 tO [.int (nI b), .int (nI k)] (fun H => True)) (vp_Si (fun r : Int32 => r = nI (ptN b k))) 0 0 (fun _ => False) := by
  refine Met.ofW (cc := cX3_pointOf) (maxL := 2) (ret := (some .int)) (by decide) rfl ?_
  intro p e s m args below meth c s₁ B hml hv
  obtain ⟨rfl, hE, hP⟩ := hv
  have hx := B.exec
  have hb := B.bytes
  have hr := B.returns
  have hts := atoms_spec (ws := wsX3_pointOf) B.pre
  have hown : s.vm.findClass RX3 = some m.cls := findClass_of_methodNamed B.named
  have hlocks := B.notSynchronized
  have hK := hE.1
  have hNS := hE.2.1
  have hl := lv_entry ([.int (nI b), .int (nI k)]) (n := 2) (Nat.le_of_ble_eq_true rfl)
  rw [lg_entry_eq]
  generalize (lg_sl ([.int (nI b), .int (nI k)]) ++ List.replicate (2 - (lg_sl ([.int (nI b), .int (nI k)])).length) Slot.unset).toArray = ls at hl ⊢
  have hl : lv_has ls 2 [(0, .int (nI b)), (1, .int (nI k))] := hl
  refine lv_iload_n hx hb dX3_pointOf_0 rfl (lv_at hl 0 rfl) ?_
  refine vp_callSi (va_Run.run (va_runSN (As := [.int (nI b)]) (rest := []) ⟨hx, hb, hml, hown, hts⟩ (C_X5_firstPointOf l dC dI cI cZ cP N0 tO b (by omega)) ⟨va_cnB 1 hts gX3_pointOf_X5_firstPointOf_n49 rfl rfl rfl hNS.2.2.2.2.1.2.1 (hts (.initialized RX5) (List.mem_of_getElem? (i := 2) (by decide +kernel))) (by decide +kernel) ⟨Nat.le_of_ble_eq_true rfl, Nat.le_of_ble_eq_true rfl⟩, (hts (.static yX5_firstPointOf) (List.mem_of_getElem? (i := 1) (by decide +kernel))), trivial⟩ ⟨Gv.blind, Gv.of hE trivial⟩ rfl rfl hl.1 rfl (lv_room (Nat.le_of_ble_eq_true rfl)) dX3_pointOf_1 ⟨Nat.le_of_ble_eq_true rfl, Nat.le_of_ble_eq_true rfl⟩)) (fun r_1 hr_1 => ?_)
  have hr_1 : r_1 = nI (b / 4 * 8 * 32 + b % 4 * 8) := hr_1
  refine lv_topr hr_1 ?_
  refine lv_iload_n hx hb dX3_pointOf_4 rfl (lv_at hl 1 rfl) ?_
  refine lv_bipush (v := 8) hx hb dX3_pointOf_5 (by decide +kernel) ?_
  refine lv_idiv hx hb dX3_pointOf_7 (by decide) ?_
  refine lv_topr (show _ = nI (k / 8) from pk_div (a := k) (d := 8) (by omega) (by omega) (by omega)) ?_
  refine lv_bipush (v := 32) hx hb dX3_pointOf_8 (by decide +kernel) ?_
  refine lv_imul hx hb dX3_pointOf_10 ?_
  refine lv_topr (show _ = nI ((k / 8) * 32) from pk_mul (k / 8) 32) ?_
  refine lv_iadd hx hb dX3_pointOf_11 ?_
  refine lv_topr (show _ = nI ((b / 4 * 8 * 32 + b % 4 * 8) + ((k / 8) * 32)) from nI_add (b / 4 * 8 * 32 + b % 4 * 8) ((k / 8) * 32)) ?_
  refine lv_iload_n hx hb dX3_pointOf_12 rfl (lv_at hl 1 rfl) ?_
  refine lv_bipush (v := 8) hx hb dX3_pointOf_13 (by decide +kernel) ?_
  refine lv_irem hx hb dX3_pointOf_15 (by decide) ?_
  refine lv_topr (show _ = nI (k % 8) from pk_rem (a := k) (d := 8) (by omega) (by omega) (by omega)) ?_
  refine lv_iadd hx hb dX3_pointOf_16 ?_
  refine lv_topr (show _ = nI (((b / 4 * 8 * 32 + b % 4 * 8) + ((k / 8) * 32)) + (k % 8)) from nI_add ((b / 4 * 8 * 32 + b % 4 * 8) + ((k / 8) * 32)) (k % 8)) ?_
  exact W.iret (v := nI (((b / 4 * 8 * 32 + b % 4 * 8) + ((k / 8) * 32)) + (k % 8))) hx hb hr (fun t ht hW => ⟨nI (((b / 4 * 8 * 32 + b % 4 * 8) + ((k / 8) * 32)) + (k % 8)), rfl, rfl, ht⟩) (fun _ h => by cases h) dX3_pointOf_17
set_option maxHeartbeats 4000000 in
set_option maxRecDepth 100000 in
theorem C_X3_levelOf (l : Launch) (dC : Nat → ClassId) (dI : Nat → Nat → Nat) (cI cZ cP : ClassId) (N0 tO : Nat) (s0 q : Int32)  : Met l yX3_levelOf wsX3_levelOf ({ frames := 1, cells := 0, slots := 0, locals := 32 } : Room) (Gv (dC, dI) cI cZ cP N0 tO [.int s0, .int q] (fun H => True)) (vp_Si (fun r : Int32 => r = lvI s0 q)) 0 0 (fun _ => False) := by
  refine Met.ofW (cc := cX3_levelOf) (maxL := 4) (ret := (some .int)) (by decide) rfl ?_
  intro p e s m args below meth c s₁ B hml hv
  obtain ⟨rfl, hE, hP⟩ := hv
  have hx := B.exec
  have hb := B.bytes
  have hr := B.returns
  have hts := atoms_spec (ws := wsX3_levelOf) B.pre
  have hown : s.vm.findClass RX3 = some m.cls := findClass_of_methodNamed B.named
  have hlocks := B.notSynchronized
  have hK := hE.1
  have hNS := hE.2.1
  have hl := lv_entry ([.int s0, .int q]) (n := 4) (Nat.le_of_ble_eq_true rfl)
  rw [lg_entry_eq]
  generalize (lg_sl ([.int s0, .int q]) ++ List.replicate (4 - (lg_sl ([.int s0, .int q])).length) Slot.unset).toArray = ls at hl ⊢
  have hl : lv_has ls 4 [(0, .int s0), (1, .int q)] := hl
  refine lv_iconst (v := 4) hx hb dX3_levelOf_0 (by decide) ?_
  refine lv_iload_n hx hb dX3_levelOf_1 rfl (lv_at hl 1 rfl) ?_
  refine lv_imul hx hb dX3_levelOf_2 ?_
  refine lv_topi (fun x_1 ex_1 => ?_)
  refine lv_istore_n (lv' := [(2, .int x_1), (0, .int s0), (1, .int q)]) hx hb dX3_levelOf_3 rfl hl (by decide) rfl (fun ls hl => ?_)
  refine lv_iload_n hx hb dX3_levelOf_4 rfl (lv_at hl 0 rfl) ?_
  refine lv_iconst (v := 1) hx hb dX3_levelOf_5 (by decide) ?_
  refine lv_icmp_ge (tgt := 11) hx hb dX3_levelOf_6 (by decide) (fun c6 => ?_) (fun c6 => ?_)
  · skip
    refine lv_iload_n hx hb dX3_levelOf_11 rfl (lv_at hl 1 rfl) ?_
    refine va_mabs hx hb (hml.trans hl.1.symm) hown (hts (.methodLink RX3 53 Lib.Math.abs.name) (List.mem_of_getElem? (i := 1) (by decide +kernel))) (hts (.static Lib.Math.abs.name) (List.mem_of_getElem? (i := 2) (by decide +kernel))) (hts (.initialized "java/lang/Math") (List.mem_of_getElem? (i := 3) (by decide +kernel))) (hts (.code Lib.Math.abs.name Lib.Math.abs.code 1 (some .int)) (List.mem_of_getElem? (i := 4) (by decide +kernel))) (Nat.le_of_ble_eq_true rfl) (Nat.le_of_ble_eq_true rfl) (Nat.le_of_ble_eq_true rfl) (Nat.le_of_ble_eq_true rfl) dX3_levelOf_12 ?_
    refine lv_topr (show _ = absI s0 from rfl) ?_
    refine lv_iload_n hx hb dX3_levelOf_15 rfl (lv_at hl 0 rfl) ?_
    refine lv_iconst (v := 3) hx hb dX3_levelOf_16 (by decide) ?_
    refine lv_idiv hx hb dX3_levelOf_17 (by decide) ?_
    refine lv_iadd hx hb dX3_levelOf_18 ?_
    refine lv_iload_n hx hb dX3_levelOf_19 rfl (lv_at hl 0 rfl) ?_
    refine lv_idiv hx hb dX3_levelOf_20 (fun z => by rw [z] at c6; exact absurd c6 (by decide)) ?_
    refine lv_topi (fun x_2 ex_2 => ?_)
    refine lv_istore_n (lv' := [(3, .int x_2), (2, .int x_1), (0, .int s0), (1, .int q)]) hx hb dX3_levelOf_21 rfl hl (by decide) rfl (fun ls hl => ?_)
    refine lv_iload_n hx hb dX3_levelOf_22 rfl (lv_at hl 2 rfl) ?_
    refine lv_if_ge (tgt := 31) hx hb dX3_levelOf_23 (by decide) (fun c23 => ?_) (fun c23 => ?_)
    · skip
      refine lv_iload_n hx hb dX3_levelOf_31 rfl (lv_at hl 0 rfl) ?_
      exact W.iret (v := x_2) hx hb hr (fun t ht hW => ⟨x_2, rfl, (by subst ex_2 ex_1; rw [lvI, if_pos c6, if_pos c23] <;> rfl), ht⟩) (fun _ h => by cases h) dX3_levelOf_32
    · skip
      refine lv_iload_n hx hb dX3_levelOf_26 rfl (lv_at hl 0 rfl) ?_
      refine lv_ineg hx hb dX3_levelOf_27 ?_
      refine lv_goto (tgt := 32) hx hb dX3_levelOf_28 (by decide) ?_
      exact W.iret (v := -x_2) hx hb hr (fun t ht hW => ⟨-x_2, rfl, (by subst ex_2 ex_1; rw [lvI, if_pos c6, if_neg c23] <;> rfl), ht⟩) (fun _ h => by cases h) dX3_levelOf_32
  · skip
    refine lv_iconst (v := 0) hx hb dX3_levelOf_9 (by decide) ?_
    exact W.iret (v := 0) hx hb hr (fun t ht hW => ⟨0, rfl, (by subst ex_1; rw [lvI, if_neg c6] <;> rfl), ht⟩) (fun _ h => by cases h) dX3_levelOf_10
set_option maxHeartbeats 4000000 in
set_option maxRecDepth 100000 in
theorem C_X3_turnFour (l : Launch) (dC : Nat → ClassId) (dI : Nat → Nat → Nat) (cI cZ cP : ClassId) (N0 tO : Nat) (h0 hA hQ hM hF : Nat) (fq : Nat → Int32) (i g : Nat) (h1 : i + 3 * g < 16) : Met l yX3_turnFour wsX3_turnFour ({ frames := 0, cells := 0, slots := 0, locals := 0 } : Room) (Gv (dC, dI) cI cZ cP N0 tO [.ref h0, .int (nI i), .int (nI g)] (fun H => va_P (dC, dI) vwCl [(h0, .inr (3, [.ref hA, .ref hQ, .ref hM, .ref hF])), (hQ, .inl (cI, 16, .inl fq))] H ∧ AD N0 [h0, hQ])) (va_Qv (fun (_ : Unit) => True) (fun (_ : Unit) (t : State) => va_P (dC, dI) vwCl [(hQ, .inl (cI, 16, .inl (t4 fq i g)))] t.heap) (inL [hQ])) 0 0 (inL [hQ]) := by
  refine Met.ofW (cc := cX3_turnFour) (maxL := 7) (ret := none) (by decide) rfl ?_
  intro p e s m args below meth c s₁ B hml hv
  obtain ⟨rfl, hE, hP, hN⟩ := hv
  have hx := B.exec
  have hb := B.bytes
  have hr := B.returns
  have hts := atoms_spec (ws := wsX3_turnFour) B.pre
  have hown : s.vm.findClass RX3 = some m.cls := findClass_of_methodNamed B.named
  have hlocks := B.notSynchronized
  have hK := hE.1
  have hNS := hE.2.1
  have hS : va_S (inL [hQ]) s.heap s.heap [] := va_S.rf
  have hAN : ∀ q : Nat, (inL [hQ]) q → N0 ≤ q := fun q h => hN.in [1] rfl q h
  have hP : va_P (dC, dI) vwCl [(h0, .inr (3, [.ref hA, .ref hQ, .ref hM, .ref hF])), (hQ, .inl (cI, 16, .inl fq))] s.heap := hP
  have hinX3 : ∀ w ∈ wsX30, w ∈ wsX3_turnFour := by decide +kernel
  have hl := lv_entry ([.ref h0, .int (nI i), .int (nI g)]) (n := 7) (Nat.le_of_ble_eq_true rfl)
  rw [lg_entry_eq]
  generalize (lg_sl ([.ref h0, .int (nI i), .int (nI g)]) ++ List.replicate (7 - (lg_sl ([.ref h0, .int (nI i), .int (nI g)])).length) Slot.unset).toArray = ls at hl ⊢
  have hl : lv_has ls 7 [(0, .ref h0), (1, .int (nI i)), (2, .int (nI g))] := hl
  refine lv_aload_n hx hb dX3_turnFour_0 rfl (lv_at hl 0 rfl) ?_
  refine va_get (D := (dC, dI)) (ci := 3) (v := .ref hQ) (C := RX3) (T := TX3) (N := 4) hx hb hts hinX3 hown hK hP 0 rfl rfl 1 (by decide) (hts (.fieldLink RX3 15 "GreyReel$Studio" "quarterNumbers" "[I") (List.mem_of_getElem? (i := 1) (by decide +kernel))) (fun _ h9 => h9) rfl dX3_turnFour_1 ?_
  refine lv_iload_n hx hb dX3_turnFour_4 rfl (lv_at hl 1 rfl) ?_
  refine wa_iald (D := (dC, dI)) (i := i) (f := fq) hx hb hK hP 1 0 rfl rfl (by omega) (by omega) dX3_turnFour_5 ?_
  refine lv_topi (fun x_1 ex_1 => ?_)
  refine lv_istore_n (lv' := [(3, .int x_1), (0, .ref h0), (1, .int (nI i)), (2, .int (nI g))]) hx hb dX3_turnFour_6 rfl hl (by decide) rfl (fun ls hl => ?_)
  refine lv_aload_n hx hb dX3_turnFour_7 rfl (lv_at hl 1 rfl) ?_
  refine va_get (D := (dC, dI)) (ci := 3) (v := .ref hQ) (C := RX3) (T := TX3) (N := 4) hx hb hts hinX3 hown hK hP 0 rfl rfl 1 (by decide) (hts (.fieldLink RX3 15 "GreyReel$Studio" "quarterNumbers" "[I") (List.mem_of_getElem? (i := 1) (by decide +kernel))) (fun _ h9 => h9) rfl dX3_turnFour_8 ?_
  refine lv_iload_n hx hb dX3_turnFour_11 rfl (lv_at hl 2 rfl) ?_
  refine lv_iload_n hx hb dX3_turnFour_12 rfl (lv_at hl 3 rfl) ?_
  refine lv_iadd hx hb dX3_turnFour_13 ?_
  refine lv_topr (show _ = nI (i + g) from nI_add i g) ?_
  refine wa_iald (D := (dC, dI)) (i := (i + g)) (f := fq) hx hb hK hP 1 0 rfl rfl (by omega) (by omega) dX3_turnFour_14 ?_
  refine lv_topi (fun x_2 ex_2 => ?_)
  refine lv_istore (lv' := [(4, .int x_2), (3, .int x_1), (0, .ref h0), (1, .int (nI i)), (2, .int (nI g))]) hx hb dX3_turnFour_15 hl (by decide) rfl (fun ls hl => ?_)
  refine lv_aload_n hx hb dX3_turnFour_17 rfl (lv_at hl 2 rfl) ?_
  refine va_get (D := (dC, dI)) (ci := 3) (v := .ref hQ) (C := RX3) (T := TX3) (N := 4) hx hb hts hinX3 hown hK hP 0 rfl rfl 1 (by decide) (hts (.fieldLink RX3 15 "GreyReel$Studio" "quarterNumbers" "[I") (List.mem_of_getElem? (i := 1) (by decide +kernel))) (fun _ h9 => h9) rfl dX3_turnFour_18 ?_
  refine lv_iload_n hx hb dX3_turnFour_21 rfl (lv_at hl 3 rfl) ?_
  refine lv_iconst (v := 2) hx hb dX3_turnFour_22 (by decide) ?_
  refine lv_iload_n hx hb dX3_turnFour_23 rfl (lv_at hl 4 rfl) ?_
  refine lv_imul hx hb dX3_turnFour_24 ?_
  refine lv_topr (show _ = nI (2 * g) from pk_mul 2 g) ?_
  refine lv_iadd hx hb dX3_turnFour_25 ?_
  refine lv_topr (show _ = nI (i + (2 * g)) from nI_add i (2 * g)) ?_
  refine wa_iald (D := (dC, dI)) (i := (i + (2 * g))) (f := fq) hx hb hK hP 1 0 rfl rfl (by omega) (by omega) dX3_turnFour_26 ?_
  refine lv_topi (fun x_3 ex_3 => ?_)
  refine lv_istore (lv' := [(5, .int x_3), (4, .int x_2), (3, .int x_1), (0, .ref h0), (1, .int (nI i)), (2, .int (nI g))]) hx hb dX3_turnFour_27 hl (by decide) rfl (fun ls hl => ?_)
  refine lv_aload_n hx hb dX3_turnFour_29 rfl (lv_at hl 3 rfl) ?_
  refine va_get (D := (dC, dI)) (ci := 3) (v := .ref hQ) (C := RX3) (T := TX3) (N := 4) hx hb hts hinX3 hown hK hP 0 rfl rfl 1 (by decide) (hts (.fieldLink RX3 15 "GreyReel$Studio" "quarterNumbers" "[I") (List.mem_of_getElem? (i := 1) (by decide +kernel))) (fun _ h9 => h9) rfl dX3_turnFour_30 ?_
  refine lv_iload_n hx hb dX3_turnFour_33 rfl (lv_at hl 4 rfl) ?_
  refine lv_iconst (v := 3) hx hb dX3_turnFour_34 (by decide) ?_
  refine lv_iload_n hx hb dX3_turnFour_35 rfl (lv_at hl 5 rfl) ?_
  refine lv_imul hx hb dX3_turnFour_36 ?_
  refine lv_topr (show _ = nI (3 * g) from pk_mul 3 g) ?_
  refine lv_iadd hx hb dX3_turnFour_37 ?_
  refine lv_topr (show _ = nI (i + (3 * g)) from nI_add i (3 * g)) ?_
  refine wa_iald (D := (dC, dI)) (i := (i + (3 * g))) (f := fq) hx hb hK hP 1 0 rfl rfl (by omega) (by omega) dX3_turnFour_38 ?_
  refine lv_topi (fun x_4 ex_4 => ?_)
  refine lv_istore (lv' := [(6, .int x_4), (5, .int x_3), (4, .int x_2), (3, .int x_1), (0, .ref h0), (1, .int (nI i)), (2, .int (nI g))]) hx hb dX3_turnFour_39 hl (by decide) rfl (fun ls hl => ?_)
  refine lv_aload_n hx hb dX3_turnFour_41 rfl (lv_at hl 4 rfl) ?_
  refine va_get (D := (dC, dI)) (ci := 3) (v := .ref hQ) (C := RX3) (T := TX3) (N := 4) hx hb hts hinX3 hown hK hP 0 rfl rfl 1 (by decide) (hts (.fieldLink RX3 15 "GreyReel$Studio" "quarterNumbers" "[I") (List.mem_of_getElem? (i := 1) (by decide +kernel))) (fun _ h9 => h9) rfl dX3_turnFour_42 ?_
  refine lv_iload_n hx hb dX3_turnFour_45 rfl (lv_at hl 5 rfl) ?_
  refine lv_iload_n hx hb dX3_turnFour_46 rfl (lv_at hl 3 rfl) ?_
  refine lv_iload hx hb dX3_turnFour_47 (lv_at hl 2 rfl) ?_
  refine lv_iadd hx hb dX3_turnFour_49 ?_
  refine lv_iload hx hb dX3_turnFour_50 (lv_at hl 1 rfl) ?_
  refine lv_iadd hx hb dX3_turnFour_52 ?_
  refine lv_iload hx hb dX3_turnFour_53 (lv_at hl 0 rfl) ?_
  refine lv_iadd hx hb dX3_turnFour_55 ?_
  refine lv_topi (fun x_5 ex_5 => ?_)
  refine wa_iast (D := (dC, dI)) (i := i) (f := fq) hx hb hK hP (hN.D rfl) hS (List.mem_of_getElem? (i := 0) rfl) 1 0 rfl rfl (by omega) (by omega) dX3_turnFour_56 (fun H locs hP hS => ?_)
  obtain ⟨f_6, ef_6⟩ : ∃ z, z = upd fq i x_5 := ⟨_, rfl⟩
  rw [← ef_6] at hP
  have hP : va_P (dC, dI) vwCl [(h0, .inr (3, [.ref hA, .ref hQ, .ref hM, .ref hF])), (hQ, .inl (cI, 16, .inl f_6))] H := hP
  refine lv_aload_n hx hb dX3_turnFour_57 rfl (lv_at hl 4 rfl) ?_
  refine va_get (D := (dC, dI)) (ci := 3) (v := .ref hQ) (C := RX3) (T := TX3) (N := 4) hx hb hts hinX3 hown hK hP 0 rfl rfl 1 (by decide) (hts (.fieldLink RX3 15 "GreyReel$Studio" "quarterNumbers" "[I") (List.mem_of_getElem? (i := 1) (by decide +kernel))) (fun _ h9 => h9) rfl dX3_turnFour_58 ?_
  refine lv_iload_n hx hb dX3_turnFour_61 rfl (lv_at hl 5 rfl) ?_
  refine lv_iload_n hx hb dX3_turnFour_62 rfl (lv_at hl 6 rfl) ?_
  refine lv_iadd hx hb dX3_turnFour_63 ?_
  refine lv_topr (show _ = nI (i + g) from nI_add i g) ?_
  refine lv_iload_n hx hb dX3_turnFour_64 rfl (lv_at hl 3 rfl) ?_
  refine lv_iload hx hb dX3_turnFour_65 (lv_at hl 2 rfl) ?_
  refine lv_iadd hx hb dX3_turnFour_67 ?_
  refine lv_iload hx hb dX3_turnFour_68 (lv_at hl 1 rfl) ?_
  refine lv_isub hx hb dX3_turnFour_70 ?_
  refine lv_iload hx hb dX3_turnFour_71 (lv_at hl 0 rfl) ?_
  refine lv_isub hx hb dX3_turnFour_73 ?_
  refine lv_topi (fun x_7 ex_7 => ?_)
  refine wa_iast (D := (dC, dI)) (i := (i + g)) (f := f_6) hx hb hK hP (hN.D rfl) hS (List.mem_of_getElem? (i := 0) rfl) 1 0 rfl rfl (by omega) (by omega) dX3_turnFour_74 (fun H locs hP hS => ?_)
  obtain ⟨f_8, ef_8⟩ : ∃ z, z = upd f_6 (i + g) x_7 := ⟨_, rfl⟩
  rw [← ef_8] at hP
  have hP : va_P (dC, dI) vwCl [(h0, .inr (3, [.ref hA, .ref hQ, .ref hM, .ref hF])), (hQ, .inl (cI, 16, .inl f_8))] H := hP
  refine lv_aload_n hx hb dX3_turnFour_75 rfl (lv_at hl 4 rfl) ?_
  refine va_get (D := (dC, dI)) (ci := 3) (v := .ref hQ) (C := RX3) (T := TX3) (N := 4) hx hb hts hinX3 hown hK hP 0 rfl rfl 1 (by decide) (hts (.fieldLink RX3 15 "GreyReel$Studio" "quarterNumbers" "[I") (List.mem_of_getElem? (i := 1) (by decide +kernel))) (fun _ h9 => h9) rfl dX3_turnFour_76 ?_
  refine lv_iload_n hx hb dX3_turnFour_79 rfl (lv_at hl 5 rfl) ?_
  refine lv_iconst (v := 2) hx hb dX3_turnFour_80 (by decide) ?_
  refine lv_iload_n hx hb dX3_turnFour_81 rfl (lv_at hl 6 rfl) ?_
  refine lv_imul hx hb dX3_turnFour_82 ?_
  refine lv_topr (show _ = nI (2 * g) from pk_mul 2 g) ?_
  refine lv_iadd hx hb dX3_turnFour_83 ?_
  refine lv_topr (show _ = nI (i + (2 * g)) from nI_add i (2 * g)) ?_
  refine lv_iload_n hx hb dX3_turnFour_84 rfl (lv_at hl 3 rfl) ?_
  refine lv_iload hx hb dX3_turnFour_85 (lv_at hl 2 rfl) ?_
  refine lv_isub hx hb dX3_turnFour_87 ?_
  refine lv_iload hx hb dX3_turnFour_88 (lv_at hl 1 rfl) ?_
  refine lv_isub hx hb dX3_turnFour_90 ?_
  refine lv_iload hx hb dX3_turnFour_91 (lv_at hl 0 rfl) ?_
  refine lv_iadd hx hb dX3_turnFour_93 ?_
  refine lv_topi (fun x_9 ex_9 => ?_)
  refine wa_iast (D := (dC, dI)) (i := (i + (2 * g))) (f := f_8) hx hb hK hP (hN.D rfl) hS (List.mem_of_getElem? (i := 0) rfl) 1 0 rfl rfl (by omega) (by omega) dX3_turnFour_94 (fun H locs hP hS => ?_)
  obtain ⟨f_10, ef_10⟩ : ∃ z, z = upd f_8 (i + (2 * g)) x_9 := ⟨_, rfl⟩
  rw [← ef_10] at hP
  have hP : va_P (dC, dI) vwCl [(h0, .inr (3, [.ref hA, .ref hQ, .ref hM, .ref hF])), (hQ, .inl (cI, 16, .inl f_10))] H := hP
  refine lv_aload_n hx hb dX3_turnFour_95 rfl (lv_at hl 4 rfl) ?_
  refine va_get (D := (dC, dI)) (ci := 3) (v := .ref hQ) (C := RX3) (T := TX3) (N := 4) hx hb hts hinX3 hown hK hP 0 rfl rfl 1 (by decide) (hts (.fieldLink RX3 15 "GreyReel$Studio" "quarterNumbers" "[I") (List.mem_of_getElem? (i := 1) (by decide +kernel))) (fun _ h9 => h9) rfl dX3_turnFour_96 ?_
  refine lv_iload_n hx hb dX3_turnFour_99 rfl (lv_at hl 5 rfl) ?_
  refine lv_iconst (v := 3) hx hb dX3_turnFour_100 (by decide) ?_
  refine lv_iload_n hx hb dX3_turnFour_101 rfl (lv_at hl 6 rfl) ?_
  refine lv_imul hx hb dX3_turnFour_102 ?_
  refine lv_topr (show _ = nI (3 * g) from pk_mul 3 g) ?_
  refine lv_iadd hx hb dX3_turnFour_103 ?_
  refine lv_topr (show _ = nI (i + (3 * g)) from nI_add i (3 * g)) ?_
  refine lv_iload_n hx hb dX3_turnFour_104 rfl (lv_at hl 3 rfl) ?_
  refine lv_iload hx hb dX3_turnFour_105 (lv_at hl 2 rfl) ?_
  refine lv_isub hx hb dX3_turnFour_107 ?_
  refine lv_iload hx hb dX3_turnFour_108 (lv_at hl 1 rfl) ?_
  refine lv_iadd hx hb dX3_turnFour_110 ?_
  refine lv_iload hx hb dX3_turnFour_111 (lv_at hl 0 rfl) ?_
  refine lv_isub hx hb dX3_turnFour_113 ?_
  refine lv_topi (fun x_11 ex_11 => ?_)
  refine wa_iast (D := (dC, dI)) (i := (i + (3 * g))) (f := f_10) hx hb hK hP (hN.D rfl) hS (List.mem_of_getElem? (i := 0) rfl) 1 0 rfl rfl (by omega) (by omega) dX3_turnFour_114 (fun H locs hP hS => ?_)
  obtain ⟨f_12, ef_12⟩ : ∃ z, z = upd f_10 (i + (3 * g)) x_11 := ⟨_, rfl⟩
  rw [← ef_12] at hP
  have hP : va_P (dC, dI) vwCl [(h0, .inr (3, [.ref hA, .ref hQ, .ref hM, .ref hF])), (hQ, .inl (cI, 16, .inl f_12))] H := hP
  have hz9 : f_12 = (t4 fq i g) := (by rw [ef_12, ex_11, ef_10, ex_9, ef_8, ex_7, ef_6, ex_5, ex_4, ex_3, ex_2, ex_1] <;> rfl)
  rw [hz9] at hP
  clear hz9
  have hP : va_P (dC, dI) vwCl [(h0, .inr (3, [.ref hA, .ref hQ, .ref hM, .ref hF])), (hQ, .inl (cI, 16, .inl (t4 fq i g)))] H := hP
  exact W.vret hx hb hr (fun t ht hW => ⟨⟨(), rfl, trivial, by show va_P _ _ _ t.heap; rw [ht]; exact hP.sub [1] rfl⟩, hS.F ht⟩) hS.2.2 dX3_turnFour_115
set_option maxHeartbeats 4000000 in
set_option maxRecDepth 100000 in
theorem C_X3_turnQuarter (l : Launch) (dC : Nat → ClassId) (dI : Nat → Nat → Nat) (cI cZ cP : ClassId) (N0 tO : Nat) (h0 hA hQ hM hF : Nat) (fq : Nat → Int32)  : Met l yX3_turnQuarter wsX3_turnQuarter ({ frames := 1, cells := 0, slots := 0, locals := 26 } : Room) (Gv (dC, dI) cI cZ cP N0 tO [.ref h0] (fun H => va_P (dC, dI) vwCl [(h0, .inr (3, [.ref hA, .ref hQ, .ref hM, .ref hF])), (hQ, .inl (cI, 16, .inl fq))] H ∧ AD N0 [h0, hQ])) (va_Qv (fun (_ : Unit) => True) (fun (_ : Unit) (t : State) => va_P (dC, dI) vwCl [(hQ, .inl (cI, 16, .inl (turnQ fq)))] t.heap) (inL [hQ])) 0 0 (inL [hQ]) := by
  refine Met.ofW (cc := cX3_turnQuarter) (maxL := 2) (ret := none) (by decide) rfl ?_
  intro p e s m args below meth c s₁ B hml hv
  obtain ⟨rfl, hE, hP, hN⟩ := hv
  have hx := B.exec
  have hb := B.bytes
  have hr := B.returns
  have hts := atoms_spec (ws := wsX3_turnQuarter) B.pre
  have hown : s.vm.findClass RX3 = some m.cls := findClass_of_methodNamed B.named
  have hlocks := B.notSynchronized
  have hK := hE.1
  have hNS := hE.2.1
  have hS : va_S (inL [hQ]) s.heap s.heap [] := va_S.rf
  have hAN : ∀ q : Nat, (inL [hQ]) q → N0 ≤ q := fun q h => hN.in [1] rfl q h
  have hP : va_P (dC, dI) vwCl [(h0, .inr (3, [.ref hA, .ref hQ, .ref hM, .ref hF])), (hQ, .inl (cI, 16, .inl fq))] s.heap := hP
  have hl := lv_entry ([.ref h0]) (n := 2) (Nat.le_of_ble_eq_true rfl)
  rw [lg_entry_eq]
  generalize (lg_sl ([.ref h0]) ++ List.replicate (2 - (lg_sl ([.ref h0])).length) Slot.unset).toArray = ls at hl ⊢
  have hl : lv_has ls 2 [(0, .ref h0)] := hl
  refine lv_iconst (v := 0) hx hb dX3_turnQuarter_0 (by decide) ?_
  refine lv_istore_n (lv' := [(1, .int 0), (0, .ref h0)]) hx hb dX3_turnQuarter_1 rfl hl (by decide) rfl (fun ls hl => ?_)
  have L2 : ∀ (n2 : Nat) (i : Nat) (f1 : Nat → Int32), (i ≤ 4) → 4 - i < n2 → f1 = (tq1 fq i) → ∀ (H : Heap) (locs : List Loc) (ls : Array Slot), va_P (dC, dI) vwCl [(h0, .inr (3, [.ref hA, .ref hQ, .ref hM, .ref hF])), (hQ, .inl (cI, 16, .inl f1))] H → va_S (inL [hQ]) s.heap H locs → lv_has ls 2 [(1, .int (nI i)), (0, .ref h0)] → W p l e (headSpec wsX3_turnQuarter ({ frames := 1, cells := 0, slots := 0, locals := 26 } : Room)).room s m ([.ref h0] : List Value).toArray below meth c H locs 0 0 (MQ below (va_Qv (fun (_ : Unit) => True) (fun (_ : Unit) (t : State) => va_P (dC, dI) vwCl [(hQ, .inl (cI, 16, .inl (turnQ fq)))] t.heap) (inL [hQ])) ([.ref h0] : List Value).toArray s 0 0 (inL [hQ])) (F0 m 2 ls []) := by
    intro n2
    induction n2 with
    | zero => intro i f1 hi hz; exact absurd hz (Nat.not_lt_zero _)
    | succ n2 ih2 =>
      intro i f1 hi hfu ef1 H locs ls hP hS hl
      refine lv_iload_n hx hb dX3_turnQuarter_2 rfl (lv_at hl 0 rfl) ?_
      refine lv_iconst (v := 4) hx hb dX3_turnQuarter_3 (by decide) ?_
      refine lv_icmp_ge (tgt := 19) hx hb dX3_turnQuarter_4 (by decide) (fun c4 => ?_) (fun c4 => ?_)
      · skip
        have c4 : 4 ≤ i := (nI_leI (a := 4) (b := i) (by omega) (by omega)).mp c4
        obtain rfl : i = 4 := by omega
        refine lv_iconst (v := 0) hx hb dX3_turnQuarter_19 (by decide) ?_
        refine lv_istore_n (lv' := [(1, .int 0), (0, .ref h0)]) hx hb dX3_turnQuarter_20 rfl hl (by decide) rfl (fun ls hl => ?_)
        have L21 : ∀ (n21 : Nat) (i : Nat) (f2 : Nat → Int32), (i ≤ 4) → 4 - i < n21 → f2 = (tq2 (tq1 fq 4) i) → ∀ (H : Heap) (locs : List Loc) (ls : Array Slot), va_P (dC, dI) vwCl [(h0, .inr (3, [.ref hA, .ref hQ, .ref hM, .ref hF])), (hQ, .inl (cI, 16, .inl f2))] H → va_S (inL [hQ]) s.heap H locs → lv_has ls 2 [(1, .int (nI i)), (0, .ref h0)] → W p l e (headSpec wsX3_turnQuarter ({ frames := 1, cells := 0, slots := 0, locals := 26 } : Room)).room s m ([.ref h0] : List Value).toArray below meth c H locs 0 0 (MQ below (va_Qv (fun (_ : Unit) => True) (fun (_ : Unit) (t : State) => va_P (dC, dI) vwCl [(hQ, .inl (cI, 16, .inl (turnQ fq)))] t.heap) (inL [hQ])) ([.ref h0] : List Value).toArray s 0 0 (inL [hQ])) (F0 m 21 ls []) := by
          intro n21
          induction n21 with
          | zero => intro i f2 hi hz; exact absurd hz (Nat.not_lt_zero _)
          | succ n21 ih21 =>
            intro i f2 hi hfu ef2 H locs ls hP hS hl
            refine lv_iload_n hx hb dX3_turnQuarter_21 rfl (lv_at hl 0 rfl) ?_
            refine lv_iconst (v := 4) hx hb dX3_turnQuarter_22 (by decide) ?_
            refine lv_icmp_ge (tgt := 40) hx hb dX3_turnQuarter_23 (by decide) (fun c23 => ?_) (fun c23 => ?_)
            · skip
              have c23 : 4 ≤ i := (nI_leI (a := 4) (b := i) (by omega) (by omega)).mp c23
              obtain rfl : i = 4 := by omega
              have hz9 : f2 = (turnQ fq) := (by rw [ef2] <;> rfl)
              rw [hz9] at hP
              clear hz9
              have hP : va_P (dC, dI) vwCl [(h0, .inr (3, [.ref hA, .ref hQ, .ref hM, .ref hF])), (hQ, .inl (cI, 16, .inl (turnQ fq)))] H := hP
              exact W.vret hx hb hr (fun t ht hW => ⟨⟨(), rfl, trivial, by show va_P _ _ _ t.heap; rw [ht]; exact hP.sub [1] rfl⟩, hS.F ht⟩) hS.2.2 dX3_turnQuarter_40
            · skip
              have c23 : ¬ 4 ≤ i := fun z => c23 ((nI_leI (a := 4) (b := i) (by omega) (by omega)).mpr z)
              refine lv_aload_n hx hb dX3_turnQuarter_26 rfl (lv_at hl 1 rfl) ?_
              refine lv_iload_n hx hb dX3_turnQuarter_27 rfl (lv_at hl 0 rfl) ?_
              refine lv_iconst (v := 4) hx hb dX3_turnQuarter_28 (by decide) ?_
              refine lv_imul hx hb dX3_turnQuarter_29 ?_
              refine lv_topr (show _ = nI (i * 4) from pk_mul i 4) ?_
              refine lv_iconst (v := 1) hx hb dX3_turnQuarter_30 (by decide) ?_
              refine va_callv (va_runV (As := [.int (nI (i * 4)), .int 1]) (rest := []) ⟨hx, hb, hml, hown, hts⟩ (C_X3_turnFour l dC dI cI cZ cP N0 tO h0 hA hQ hM hF f2 (i * 4) 1 (by omega)) (cwV 2 hts gX3_turnQuarter_X3_turnFour rfl rfl rfl (by decide +kernel) ⟨Nat.le_of_ble_eq_true rfl, Nat.le_of_ble_eq_true rfl⟩) ⟨Gv.blind, va_recv hK hP (ci := 3) (q0 := 0) rfl rfl, Gv.of (hE.S hS hAN) ⟨(hP.sub [0, 1] rfl), hN.sub [0, 1] (by decide) rfl⟩⟩ rfl rfl hl.1 rfl (lv_room (Nat.le_of_ble_eq_true rfl)) dX3_turnQuarter_31 ⟨Nat.le_of_ble_eq_true rfl, Nat.le_of_ble_eq_true rfl⟩) hS (fun q _ h => inL_sub [0] rfl q h) (inL_sub [0] rfl) (fun u t H locs ht hvm hw hB hz1 hk1 hS => ?_)
              rw [ht] at hB
              have hP := va_back (L := [hQ]) hP hN rfl [1] rfl rfl (fun q h1 h2 => hk1 q h1 h2) hB
              clear hB hk1 hz1 hvm ht t
              have hP : va_P (dC, dI) vwCl [(h0, .inr (3, [.ref hA, .ref hQ, .ref hM, .ref hF])), (hQ, .inl (cI, 16, .inl (t4 f2 (i * 4) 1)))] H := hP
              have hw : True := hw
              have hwr_1 := hw
              refine lv_iinc (v := nI (i + 1)) (lv' := [(1, .int (nI (i + 1))), (0, .ref h0)]) hx hb dX3_turnQuarter_34 hl (k := 0) rfl (show nI i + Int32.ofInt 1 = nI (i + 1) from nI_add _ _) (by decide) rfl (fun ls hl => ?_)
              refine lv_goto (tgt := 21) hx hb dX3_turnQuarter_37 (by decide) ?_
              exact ih21 (i + 1) (t4 f2 (i * 4) 1) (by omega) (by omega) (by rw [ef2] <;> rfl) _ _ _ hP hS (lv_sub hl [0, 1] rfl)
        exact L21 (4 + 1) 0 f1 (by omega) (Nat.lt_succ_self _) (by rw [ef1] <;> rfl) _ _ _ hP hS (lv_sub hl [0, 1] rfl)
      · skip
        have c4 : ¬ 4 ≤ i := fun z => c4 ((nI_leI (a := 4) (b := i) (by omega) (by omega)).mpr z)
        refine lv_aload_n hx hb dX3_turnQuarter_7 rfl (lv_at hl 1 rfl) ?_
        refine lv_iload_n hx hb dX3_turnQuarter_8 rfl (lv_at hl 0 rfl) ?_
        refine lv_iconst (v := 4) hx hb dX3_turnQuarter_9 (by decide) ?_
        refine va_callv (va_runV (As := [.int (nI i), .int 4]) (rest := []) ⟨hx, hb, hml, hown, hts⟩ (C_X3_turnFour l dC dI cI cZ cP N0 tO h0 hA hQ hM hF f1 i 4 (by omega)) (cwV 2 hts gX3_turnQuarter_X3_turnFour rfl rfl rfl (by decide +kernel) ⟨Nat.le_of_ble_eq_true rfl, Nat.le_of_ble_eq_true rfl⟩) ⟨Gv.blind, va_recv hK hP (ci := 3) (q0 := 0) rfl rfl, Gv.of (hE.S hS hAN) ⟨(hP.sub [0, 1] rfl), hN.sub [0, 1] (by decide) rfl⟩⟩ rfl rfl hl.1 rfl (lv_room (Nat.le_of_ble_eq_true rfl)) dX3_turnQuarter_10 ⟨Nat.le_of_ble_eq_true rfl, Nat.le_of_ble_eq_true rfl⟩) hS (fun q _ h => inL_sub [0] rfl q h) (inL_sub [0] rfl) (fun u t H locs ht hvm hw hB hz1 hk1 hS => ?_)
        rw [ht] at hB
        have hP := va_back (L := [hQ]) hP hN rfl [1] rfl rfl (fun q h1 h2 => hk1 q h1 h2) hB
        clear hB hk1 hz1 hvm ht t
        have hP : va_P (dC, dI) vwCl [(h0, .inr (3, [.ref hA, .ref hQ, .ref hM, .ref hF])), (hQ, .inl (cI, 16, .inl (t4 f1 i 4)))] H := hP
        have hw : True := hw
        have hwr_2 := hw
        refine lv_iinc (v := nI (i + 1)) (lv' := [(1, .int (nI (i + 1))), (0, .ref h0)]) hx hb dX3_turnQuarter_13 hl (k := 0) rfl (show nI i + Int32.ofInt 1 = nI (i + 1) from nI_add _ _) (by decide) rfl (fun ls hl => ?_)
        refine lv_goto (tgt := 2) hx hb dX3_turnQuarter_16 (by decide) ?_
        exact ih2 (i + 1) (t4 f1 i 4) (by omega) (by omega) (by rw [ef1] <;> rfl) _ _ _ hP hS (lv_sub hl [0, 1] rfl)
  exact L2 (4 + 1) 0 fq (by omega) (Nat.lt_succ_self _) rfl _ _ _ hP hS (lv_sub hl [0, 1] rfl)
set_option maxHeartbeats 4000000 in
set_option maxRecDepth 100000 in
theorem C_X3_measure (l : Launch) (dC : Nat → ClassId) (dI : Nat → Nat → Nat) (cI cZ cP : ClassId) (N0 tO : Nat) (h0 hA hQ hM hF : Nat) (hC hV : Nat) (fq fc ff fv : Nat → Int32) (b : Nat) (q : Int32) (h1 : b < 12) : Met l yX3_measure wsX3_measure ({ frames := 2, cells := 0, slots := 0, locals := 55 } : Room) (Gv (dC, dI) cI cZ cP N0 tO [.ref h0, .ref hC, .int (nI b), .int q, .ref hV] (fun H => va_P (dC, dI) vwCl [(h0, .inr (3, [.ref hA, .ref hQ, .ref hM, .ref hF])), (hQ, .inl (cI, 16, .inl fq)), (hC, .inl (cI, 768, .inl fc)), (hF, .inl (cI, 64, .inl ff)), (hV, .inl (cI, 768, .inl fv))] H ∧ AD N0 [h0, hQ, hC, hF, hV])) (va_Qi (fun (r : Int32) (fz : (Nat → Int32)) => r = allZ (lvB fc ff b q) 64) (fun (fz : (Nat → Int32)) (t : State) => va_P (dC, dI) vwCl [(hQ, .inl (cI, 16, .inl fz)), (hV, .inl (cI, 768, .inl (segTo (lvB fc ff b q) fv (b * 64) 64)))] t.heap) (inL [hQ, hV])) 0 0 (inL [hQ, hV]) := by
  refine Met.ofW (cc := cX3_measure) (maxL := 10) (ret := (some .boolean)) (by decide) rfl ?_
  intro p e s m args below meth c s₁ B hml hv
  obtain ⟨rfl, hE, hP, hN⟩ := hv
  have hx := B.exec
  have hb := B.bytes
  have hr := B.returns
  have hts := atoms_spec (ws := wsX3_measure) B.pre
  have hown : s.vm.findClass RX3 = some m.cls := findClass_of_methodNamed B.named
  have hlocks := B.notSynchronized
  have hK := hE.1
  have hNS := hE.2.1
  have hS : va_S (inL [hQ, hV]) s.heap s.heap [] := va_S.rf
  have hAN : ∀ q : Nat, (inL [hQ, hV]) q → N0 ≤ q := fun q h => hN.in [1, 4] rfl q h
  have hP : va_P (dC, dI) vwCl [(h0, .inr (3, [.ref hA, .ref hQ, .ref hM, .ref hF])), (hQ, .inl (cI, 16, .inl fq)), (hC, .inl (cI, 768, .inl fc)), (hF, .inl (cI, 64, .inl ff)), (hV, .inl (cI, 768, .inl fv))] s.heap := hP
  have hinX3 : ∀ w ∈ wsX30, w ∈ wsX3_measure := by decide +kernel
  have hl := lv_entry ([.ref h0, .ref hC, .int (nI b), .int q, .ref hV]) (n := 10) (Nat.le_of_ble_eq_true rfl)
  rw [lg_entry_eq]
  generalize (lg_sl ([.ref h0, .ref hC, .int (nI b), .int q, .ref hV]) ++ List.replicate (10 - (lg_sl ([.ref h0, .ref hC, .int (nI b), .int q, .ref hV])).length) Slot.unset).toArray = ls at hl ⊢
  have hl : lv_has ls 10 [(0, .ref h0), (1, .ref hC), (2, .int (nI b)), (3, .int q), (4, .ref hV)] := hl
  refine lv_iconst (v := 1) hx hb dX3_measure_0 (by decide) ?_
  refine lv_istore (lv' := [(5, .int 1), (0, .ref h0), (1, .ref hC), (2, .int (nI b)), (3, .int q), (4, .ref hV)]) hx hb dX3_measure_1 hl (by decide) rfl (fun ls hl => ?_)
  refine lv_iconst (v := 0) hx hb dX3_measure_3 (by decide) ?_
  refine lv_istore (lv' := [(6, .int 0), (5, .int 1), (0, .ref h0), (1, .ref hC), (2, .int (nI b)), (3, .int q), (4, .ref hV)]) hx hb dX3_measure_4 hl (by decide) rfl (fun ls hl => ?_)
  have L6 : ∀ (n6 : Nat) (qr : Nat) (x5 : Int32) (f1 : Nat → Int32) (v1 : Nat → Int32), (qr ≤ 4) → 4 - qr < n6 → x5 = (allZ (lvB fc ff b q) (qr * 16)) → v1 = (segTo (lvB fc ff b q) fv (b * 64) (qr * 16)) → ∀ (H : Heap) (locs : List Loc) (ls : Array Slot), va_P (dC, dI) vwCl [(h0, .inr (3, [.ref hA, .ref hQ, .ref hM, .ref hF])), (hQ, .inl (cI, 16, .inl f1)), (hC, .inl (cI, 768, .inl fc)), (hF, .inl (cI, 64, .inl ff)), (hV, .inl (cI, 768, .inl v1))] H → va_S (inL [hQ, hV]) s.heap H locs → lv_has ls 10 [(6, .int (nI qr)), (5, .int x5), (0, .ref h0), (1, .ref hC), (2, .int (nI b)), (3, .int q), (4, .ref hV)] → W p l e (headSpec wsX3_measure ({ frames := 2, cells := 0, slots := 0, locals := 55 } : Room)).room s m ([.ref h0, .ref hC, .int (nI b), .int q, .ref hV] : List Value).toArray below meth c H locs 0 0 (MQ below (va_Qi (fun (r : Int32) (fz : (Nat → Int32)) => r = allZ (lvB fc ff b q) 64) (fun (fz : (Nat → Int32)) (t : State) => va_P (dC, dI) vwCl [(hQ, .inl (cI, 16, .inl fz)), (hV, .inl (cI, 768, .inl (segTo (lvB fc ff b q) fv (b * 64) 64)))] t.heap) (inL [hQ, hV])) ([.ref h0, .ref hC, .int (nI b), .int q, .ref hV] : List Value).toArray s 0 0 (inL [hQ, hV])) (F0 m 6 ls []) := by
    intro n6
    induction n6 with
    | zero => intro qr x5 f1 v1 hqr hz; exact absurd hz (Nat.not_lt_zero _)
    | succ n6 ih6 =>
      intro qr x5 f1 v1 hqr hfu ex5 ev1 H locs ls hP hS hl
      refine lv_iload hx hb dX3_measure_6 (lv_at hl 0 rfl) ?_
      refine lv_iconst (v := 4) hx hb dX3_measure_8 (by decide) ?_
      refine lv_icmp_ge (tgt := 148) hx hb dX3_measure_9 (by decide) (fun c9 => ?_) (fun c9 => ?_)
      · skip
        have c9 : 4 ≤ qr := (nI_leI (a := 4) (b := qr) (by omega) (by omega)).mp c9
        obtain rfl : qr = 4 := by omega
        have hz9 : v1 = (segTo (lvB fc ff b q) fv (b * 64) 64) := ev1
        rw [hz9] at hP
        clear hz9
        have hP : va_P (dC, dI) vwCl [(h0, .inr (3, [.ref hA, .ref hQ, .ref hM, .ref hF])), (hQ, .inl (cI, 16, .inl f1)), (hC, .inl (cI, 768, .inl fc)), (hF, .inl (cI, 64, .inl ff)), (hV, .inl (cI, 768, .inl (segTo (lvB fc ff b q) fv (b * 64) 64)))] H := hP
        refine lv_iload hx hb dX3_measure_148 (lv_at hl 1 rfl) ?_
        exact W.zret (v := x5) hx hb hr (nar01 (by rw [ex5]; exact allZ_01 _ _)) (fun t ht hW => ⟨⟨x5, f1, rfl, ex5, by show va_P _ _ _ t.heap; rw [ht]; exact hP.sub [1, 4] rfl⟩, hS.F ht⟩) hS.2.2 dX3_measure_150
      · skip
        have c9 : ¬ 4 ≤ qr := fun z => c9 ((nI_leI (a := 4) (b := qr) (by omega) (by omega)).mpr z)
        refine lv_iconst (v := 0) hx hb dX3_measure_12 (by decide) ?_
        refine lv_istore (lv' := [(7, .int 0), (6, .int (nI qr)), (5, .int x5), (0, .ref h0), (1, .ref hC), (2, .int (nI b)), (3, .int q), (4, .ref hV)]) hx hb dX3_measure_13 hl (by decide) rfl (fun ls hl => ?_)
        have L15 : ∀ (n15 : Nat) (a : Nat) (f2 : Nat → Int32), (a ≤ 16) → 16 - a < n15 → f2 = (fillTo (rsF fc ff b qr) f1 a) → ∀ (H : Heap) (locs : List Loc) (ls : Array Slot), va_P (dC, dI) vwCl [(h0, .inr (3, [.ref hA, .ref hQ, .ref hM, .ref hF])), (hQ, .inl (cI, 16, .inl f2)), (hC, .inl (cI, 768, .inl fc)), (hF, .inl (cI, 64, .inl ff)), (hV, .inl (cI, 768, .inl v1))] H → va_S (inL [hQ, hV]) s.heap H locs → lv_has ls 10 [(7, .int (nI a)), (6, .int (nI qr)), (5, .int x5), (0, .ref h0), (1, .ref hC), (2, .int (nI b)), (3, .int q), (4, .ref hV)] → W p l e (headSpec wsX3_measure ({ frames := 2, cells := 0, slots := 0, locals := 55 } : Room)).room s m ([.ref h0, .ref hC, .int (nI b), .int q, .ref hV] : List Value).toArray below meth c H locs 0 0 (MQ below (va_Qi (fun (r : Int32) (fz : (Nat → Int32)) => r = allZ (lvB fc ff b q) 64) (fun (fz : (Nat → Int32)) (t : State) => va_P (dC, dI) vwCl [(hQ, .inl (cI, 16, .inl fz)), (hV, .inl (cI, 768, .inl (segTo (lvB fc ff b q) fv (b * 64) 64)))] t.heap) (inL [hQ, hV])) ([.ref h0, .ref hC, .int (nI b), .int q, .ref hV] : List Value).toArray s 0 0 (inL [hQ, hV])) (F0 m 15 ls []) := by
          intro n15
          induction n15 with
          | zero => intro a f2 ha hz; exact absurd hz (Nat.not_lt_zero _)
          | succ n15 ih15 =>
            intro a f2 ha hfu ef2 H locs ls hP hS hl
            refine lv_iload hx hb dX3_measure_15 (lv_at hl 0 rfl) ?_
            refine lv_bipush (v := 16) hx hb dX3_measure_17 (by decide +kernel) ?_
            refine lv_icmp_ge (tgt := 64) hx hb dX3_measure_19 (by decide) (fun c19 => ?_) (fun c19 => ?_)
            · skip
              have c19 : 16 ≤ a := (nI_leI (a := 16) (b := a) (by omega) (by omega)).mp c19
              obtain rfl : a = 16 := by omega
              have hP := hP.cong 1 (rsF fc ff b qr) rfl (fun k hk => by rw [ef2]; exact fillTo_at _ _ hk)
              have hP : va_P (dC, dI) vwCl [(h0, .inr (3, [.ref hA, .ref hQ, .ref hM, .ref hF])), (hQ, .inl (cI, 16, .inl (rsF fc ff b qr))), (hC, .inl (cI, 768, .inl fc)), (hF, .inl (cI, 64, .inl ff)), (hV, .inl (cI, 768, .inl v1))] H := hP
              refine lv_aload_n hx hb dX3_measure_64 rfl (lv_at hl 3 rfl) ?_
              refine va_callv (va_runV (As := []) (rest := []) ⟨hx, hb, hml, hown, hts⟩ (C_X3_turnQuarter l dC dI cI cZ cP N0 tO h0 hA hQ hM hF (rsF fc ff b qr) ) (cwV 0 hts gX3_measure_X3_turnQuarter rfl rfl rfl (by decide +kernel) ⟨Nat.le_of_ble_eq_true rfl, Nat.le_of_ble_eq_true rfl⟩) ⟨Gv.blind, va_recv hK hP (ci := 3) (q0 := 0) rfl rfl, Gv.of (hE.S hS hAN) ⟨(hP.sub [0, 1] rfl), hN.sub [0, 1] (by decide) rfl⟩⟩ rfl rfl hl.1 rfl (lv_room (Nat.le_of_ble_eq_true rfl)) dX3_measure_65 ⟨Nat.le_of_ble_eq_true rfl, Nat.le_of_ble_eq_true rfl⟩) hS (fun q _ h => inL_sub [0] rfl q h) (inL_sub [0] rfl) (fun u t H locs ht hvm hw hB hz1 hk1 hS => ?_)
              rw [ht] at hB
              have hP := va_back (L := [hQ]) hP hN rfl [1] rfl rfl (fun q h1 h2 => hk1 q h1 h2) hB
              clear hB hk1 hz1 hvm ht t
              have hP : va_P (dC, dI) vwCl [(h0, .inr (3, [.ref hA, .ref hQ, .ref hM, .ref hF])), (hQ, .inl (cI, 16, .inl (turnQ (rsF fc ff b qr)))), (hC, .inl (cI, 768, .inl fc)), (hF, .inl (cI, 64, .inl ff)), (hV, .inl (cI, 768, .inl v1))] H := hP
              have hw : True := hw
              have hwr_1 := hw
              refine lv_iload_n hx hb dX3_measure_68 rfl (lv_at hl 5 rfl) ?_
              refine lv_bipush (v := 64) hx hb dX3_measure_69 (by decide +kernel) ?_
              refine lv_imul hx hb dX3_measure_71 ?_
              refine lv_topr (show _ = nI (b * 64) from pk_mul b 64) ?_
              refine lv_iload hx hb dX3_measure_72 (lv_at hl 1 rfl) ?_
              refine lv_bipush (v := 16) hx hb dX3_measure_74 (by decide +kernel) ?_
              refine lv_imul hx hb dX3_measure_76 ?_
              refine lv_topr (show _ = nI (qr * 16) from pk_mul qr 16) ?_
              refine lv_iadd hx hb dX3_measure_77 ?_
              refine lv_topr (show _ = nI ((b * 64) + (qr * 16)) from nI_add (b * 64) (qr * 16)) ?_
              refine lv_istore (lv' := [(7, .int (nI ((b * 64) + (qr * 16)))), (6, .int (nI qr)), (5, .int x5), (0, .ref h0), (1, .ref hC), (2, .int (nI b)), (3, .int q), (4, .ref hV)]) hx hb dX3_measure_78 hl (by decide) rfl (fun ls hl => ?_)
              refine lv_iconst (v := 0) hx hb dX3_measure_80 (by decide) ?_
              refine lv_istore (lv' := [(8, .int 0), (7, .int (nI ((b * 64) + (qr * 16)))), (6, .int (nI qr)), (5, .int x5), (0, .ref h0), (1, .ref hC), (2, .int (nI b)), (3, .int q), (4, .ref hV)]) hx hb dX3_measure_81 hl (by decide) rfl (fun ls hl => ?_)
              have L83 : ∀ (n83 : Nat) (pl : Nat) (x6 : Int32) (v2 : Nat → Int32), (pl ≤ 16) → 16 - pl < n83 → x6 = (allZ (lvB fc ff b q) (qr * 16 + pl)) → v2 = (segTo (lvB fc ff b q) fv (b * 64) (qr * 16 + pl)) → ∀ (H : Heap) (locs : List Loc) (ls : Array Slot), va_P (dC, dI) vwCl [(h0, .inr (3, [.ref hA, .ref hQ, .ref hM, .ref hF])), (hQ, .inl (cI, 16, .inl (turnQ (rsF fc ff b qr)))), (hC, .inl (cI, 768, .inl fc)), (hF, .inl (cI, 64, .inl ff)), (hV, .inl (cI, 768, .inl v2))] H → va_S (inL [hQ, hV]) s.heap H locs → lv_has ls 10 [(8, .int (nI pl)), (7, .int (nI ((b * 64) + (qr * 16)))), (6, .int (nI qr)), (5, .int x6), (0, .ref h0), (1, .ref hC), (2, .int (nI b)), (3, .int q), (4, .ref hV)] → W p l e (headSpec wsX3_measure ({ frames := 2, cells := 0, slots := 0, locals := 55 } : Room)).room s m ([.ref h0, .ref hC, .int (nI b), .int q, .ref hV] : List Value).toArray below meth c H locs 0 0 (MQ below (va_Qi (fun (r : Int32) (fz : (Nat → Int32)) => r = allZ (lvB fc ff b q) 64) (fun (fz : (Nat → Int32)) (t : State) => va_P (dC, dI) vwCl [(hQ, .inl (cI, 16, .inl fz)), (hV, .inl (cI, 768, .inl (segTo (lvB fc ff b q) fv (b * 64) 64)))] t.heap) (inL [hQ, hV])) ([.ref h0, .ref hC, .int (nI b), .int q, .ref hV] : List Value).toArray s 0 0 (inL [hQ, hV])) (F0 m 83 ls []) := by
                intro n83
                induction n83 with
                | zero => intro pl x6 v2 hpl hz; exact absurd hz (Nat.not_lt_zero _)
                | succ n83 ih83 =>
                  intro pl x6 v2 hpl hfu ex6 ev2 H locs ls hP hS hl
                  refine lv_iload hx hb dX3_measure_83 (lv_at hl 0 rfl) ?_
                  refine lv_bipush (v := 16) hx hb dX3_measure_85 (by decide +kernel) ?_
                  refine lv_icmp_ge (tgt := 142) hx hb dX3_measure_87 (by decide) (fun c87 => ?_) (fun c87 => ?_)
                  · skip
                    have c87 : 16 ≤ pl := (nI_leI (a := 16) (b := pl) (by omega) (by omega)).mp c87
                    obtain rfl : pl = 16 := by omega
                    refine lv_iinc (v := nI (qr + 1)) (lv' := [(6, .int (nI (qr + 1))), (8, .int (nI 16)), (7, .int (nI ((b * 64) + (qr * 16)))), (5, .int x6), (0, .ref h0), (1, .ref hC), (2, .int (nI b)), (3, .int q), (4, .ref hV)]) hx hb dX3_measure_142 hl (k := 2) rfl (show nI qr + Int32.ofInt 1 = nI (qr + 1) from nI_add _ _) (by decide) rfl (fun ls hl => ?_)
                    refine lv_goto (tgt := 6) hx hb dX3_measure_145 (by decide) ?_
                    exact ih6 (qr + 1) x6 (turnQ (rsF fc ff b qr)) v2 (by omega) (by omega) (by rw [ex6]; congr 1; omega) (by rw [ev2]; congr 1; omega) _ _ _ hP hS (lv_sub hl [0, 3, 4, 5, 6, 7, 8] rfl)
                  · skip
                    have c87 : ¬ 16 ≤ pl := fun z => c87 ((nI_leI (a := 16) (b := pl) (by omega) (by omega)).mpr z)
                    refine lv_aload hx hb dX3_measure_90 (lv_at hl 8 rfl) ?_
                    refine lv_iload hx hb dX3_measure_92 (lv_at hl 1 rfl) ?_
                    refine lv_iload hx hb dX3_measure_94 (lv_at hl 0 rfl) ?_
                    refine lv_iadd hx hb dX3_measure_96 ?_
                    refine lv_topr (show _ = nI (((b * 64) + (qr * 16)) + pl) from nI_add ((b * 64) + (qr * 16)) pl) ?_
                    refine lv_aload_n hx hb dX3_measure_97 rfl (lv_at hl 4 rfl) ?_
                    refine va_get (D := (dC, dI)) (ci := 3) (v := .ref hQ) (C := RX3) (T := TX3) (N := 4) hx hb hts hinX3 hown hK hP 0 rfl rfl 1 (by decide) (hts (.fieldLink RX3 15 "GreyReel$Studio" "quarterNumbers" "[I") (List.mem_of_getElem? (i := 1) (by decide +kernel))) (fun _ h9 => h9) rfl dX3_measure_98 ?_
                    refine va_gets hx hb (hE.2.2.2.1.narrow hAN) hS hown (hts (.fieldLink RX3 80 "GreyReel$Studio" "ORDER" "[I") (List.mem_of_getElem? (i := 3) (by decide +kernel))) (fun _ h9 => h9) dX3_measure_101 ?_
                    refine lv_iload hx hb dX3_measure_104 (lv_at hl 0 rfl) ?_
                    refine va_ti hx hb (hE.2.2.2.2.narrow hAN) hS (i := nI pl) (vp_in_nI (by omega) (by omega)) (v := .int (nI (ordN pl))) (by rw [nI_clamp (by omega)]; rfl) dX3_measure_106 ?_
                    refine wa_iald (D := (dC, dI)) (i := (ordN pl)) (f := (turnQ (rsF fc ff b qr))) hx hb hK hP 1 0 rfl rfl (ordN_lt pl (by omega)) (by omega) dX3_measure_107 ?_
                    refine lv_iload_n hx hb dX3_measure_108 rfl (lv_at hl 7 rfl) ?_
                    refine vp_callSi (va_Run.run (va_runS (As := [.int ((turnQ (rsF fc ff b qr)) (ordN pl)), .int q]) (rest := [.int (nI (((b * 64) + (qr * 16)) + pl)), .ref hV]) ⟨hx, hb, hml, hown, hts⟩ (C_X3_levelOf l dC dI cI cZ cP N0 tO ((turnQ (rsF fc ff b qr)) (ordN pl)) q ) (va_cwS 2 hts gX3_measure_X3_levelOf rfl rfl rfl (by decide +kernel) ⟨Nat.le_of_ble_eq_true rfl, Nat.le_of_ble_eq_true rfl⟩) ⟨Gv.blind, Gv.of (hE.S hS hAN) trivial⟩ rfl rfl hl.1 rfl (lv_room (Nat.le_of_ble_eq_true rfl)) dX3_measure_109 ⟨Nat.le_of_ble_eq_true rfl, Nat.le_of_ble_eq_true rfl⟩)) (fun r_2 hr_2 => ?_)
                    have hr_2 : r_2 = lvI ((turnQ (rsF fc ff b qr)) (ordN pl)) q := hr_2
                    refine wa_iast (D := (dC, dI)) (i := (((b * 64) + (qr * 16)) + pl)) (f := v2) hx hb hK hP (hN.D rfl) hS (List.mem_of_getElem? (i := 1) rfl) 4 0 rfl rfl (by omega) (by omega) dX3_measure_112 (fun H locs hP hS => ?_)
                    obtain ⟨f_3, ef_3⟩ : ∃ z, z = upd v2 (((b * 64) + (qr * 16)) + pl) r_2 := ⟨_, rfl⟩
                    rw [← ef_3] at hP
                    have hP : va_P (dC, dI) vwCl [(h0, .inr (3, [.ref hA, .ref hQ, .ref hM, .ref hF])), (hQ, .inl (cI, 16, .inl (turnQ (rsF fc ff b qr)))), (hC, .inl (cI, 768, .inl fc)), (hF, .inl (cI, 64, .inl ff)), (hV, .inl (cI, 768, .inl f_3))] H := hP
                    refine lv_iload hx hb dX3_measure_113 (lv_at hl 3 rfl) ?_
                    refine lv_if_eq (tgt := 133) hx hb dX3_measure_115 (by decide) (fun c115 => ?_) (fun c115 => ?_)
                    · skip
                      refine lv_iconst (v := 0) hx hb dX3_measure_133 (by decide) ?_
                      refine lv_istore (lv' := [(5, .int 0), (8, .int (nI pl)), (7, .int (nI ((b * 64) + (qr * 16)))), (6, .int (nI qr)), (0, .ref h0), (1, .ref hC), (2, .int (nI b)), (3, .int q), (4, .ref hV)]) hx hb dX3_measure_134 hl (by decide) rfl (fun ls hl => ?_)
                      refine lv_iinc (v := nI (pl + 1)) (lv' := [(8, .int (nI (pl + 1))), (5, .int 0), (7, .int (nI ((b * 64) + (qr * 16)))), (6, .int (nI qr)), (0, .ref h0), (1, .ref hC), (2, .int (nI b)), (3, .int q), (4, .ref hV)]) hx hb dX3_measure_136 hl (k := 1) rfl (show nI pl + Int32.ofInt 1 = nI (pl + 1) from nI_add _ _) (by decide) rfl (fun ls hl => ?_)
                      refine lv_goto (tgt := 83) hx hb dX3_measure_139 (by decide) ?_
                      exact ih83 (pl + 1) 0 f_3 (by omega) (by omega) (allZ_a ex6 c115) (by rw [ef_3, hr_2, ev2, Nat.add_assoc]; exact segTo_s _ _ _ _ (lvB_at fc ff b q (by omega)).symm) _ _ _ hP hS (lv_sub hl [0, 2, 3, 1, 4, 5, 6, 7, 8] rfl)
                    · skip
                      refine lv_aload hx hb dX3_measure_118 (lv_at hl 8 rfl) ?_
                      refine lv_iload hx hb dX3_measure_120 (lv_at hl 1 rfl) ?_
                      refine lv_iload hx hb dX3_measure_122 (lv_at hl 0 rfl) ?_
                      refine lv_iadd hx hb dX3_measure_124 ?_
                      refine lv_topr (show _ = nI (((b * 64) + (qr * 16)) + pl) from nI_add ((b * 64) + (qr * 16)) pl) ?_
                      refine wa_iald (D := (dC, dI)) (i := (((b * 64) + (qr * 16)) + pl)) (f := f_3) hx hb hK hP 4 0 rfl rfl (by omega) (by omega) dX3_measure_125 ?_
                      refine lv_topr (show _ = lvB fc ff b q (qr * 16 + pl) from (by rw [ef_3, hr_2, ev2]; exact pk_us.trans (lvB_at fc ff b q (by omega)).symm)) ?_
                      refine lv_if_ne (tgt := 133) hx hb dX3_measure_126 (by decide) (fun c126 => ?_) (fun c126 => ?_)
                      · skip
                        refine lv_iconst (v := 0) hx hb dX3_measure_133 (by decide) ?_
                        refine lv_istore (lv' := [(5, .int 0), (8, .int (nI pl)), (7, .int (nI ((b * 64) + (qr * 16)))), (6, .int (nI qr)), (0, .ref h0), (1, .ref hC), (2, .int (nI b)), (3, .int q), (4, .ref hV)]) hx hb dX3_measure_134 hl (by decide) rfl (fun ls hl => ?_)
                        refine lv_iinc (v := nI (pl + 1)) (lv' := [(8, .int (nI (pl + 1))), (5, .int 0), (7, .int (nI ((b * 64) + (qr * 16)))), (6, .int (nI qr)), (0, .ref h0), (1, .ref hC), (2, .int (nI b)), (3, .int q), (4, .ref hV)]) hx hb dX3_measure_136 hl (k := 1) rfl (show nI pl + Int32.ofInt 1 = nI (pl + 1) from nI_add _ _) (by decide) rfl (fun ls hl => ?_)
                        refine lv_goto (tgt := 83) hx hb dX3_measure_139 (by decide) ?_
                        exact ih83 (pl + 1) 0 f_3 (by omega) (by omega) (allZ_b ex6 c115 c126) (by rw [ef_3, hr_2, ev2, Nat.add_assoc]; exact segTo_s _ _ _ _ (lvB_at fc ff b q (by omega)).symm) _ _ _ hP hS (lv_sub hl [0, 2, 3, 1, 4, 5, 6, 7, 8] rfl)
                      · skip
                        refine lv_iconst (v := 1) hx hb dX3_measure_129 (by decide) ?_
                        refine lv_goto (tgt := 134) hx hb dX3_measure_130 (by decide) ?_
                        refine lv_istore (lv' := [(5, .int 1), (8, .int (nI pl)), (7, .int (nI ((b * 64) + (qr * 16)))), (6, .int (nI qr)), (0, .ref h0), (1, .ref hC), (2, .int (nI b)), (3, .int q), (4, .ref hV)]) hx hb dX3_measure_134 hl (by decide) rfl (fun ls hl => ?_)
                        refine lv_iinc (v := nI (pl + 1)) (lv' := [(8, .int (nI (pl + 1))), (5, .int 1), (7, .int (nI ((b * 64) + (qr * 16)))), (6, .int (nI qr)), (0, .ref h0), (1, .ref hC), (2, .int (nI b)), (3, .int q), (4, .ref hV)]) hx hb dX3_measure_136 hl (k := 1) rfl (show nI pl + Int32.ofInt 1 = nI (pl + 1) from nI_add _ _) (by decide) rfl (fun ls hl => ?_)
                        refine lv_goto (tgt := 83) hx hb dX3_measure_139 (by decide) ?_
                        exact ih83 (pl + 1) 1 f_3 (by omega) (by omega) (allZ_c ex6 c115 c126) (by rw [ef_3, hr_2, ev2, Nat.add_assoc]; exact segTo_s _ _ _ _ (lvB_at fc ff b q (by omega)).symm) _ _ _ hP hS (lv_sub hl [0, 2, 3, 1, 4, 5, 6, 7, 8] rfl)
              exact L83 (16 + 1) 0 x5 v1 (by omega) (Nat.lt_succ_self _) (by rw [ex5] <;> rfl) (by rw [ev1] <;> rfl) _ _ _ hP hS (lv_sub hl [0, 1, 2, 3, 4, 5, 6, 7, 8] rfl)
            · skip
              have c19 : ¬ 16 ≤ a := fun z => c19 ((nI_leI (a := 16) (b := a) (by omega) (by omega)).mpr z)
              refine lv_iload hx hb dX3_measure_22 (lv_at hl 1 rfl) ?_
              refine lv_iload hx hb dX3_measure_24 (lv_at hl 0 rfl) ?_
              refine vp_callSi (va_Run.run (va_runS (As := [.int (nI qr), .int (nI a)]) (rest := []) ⟨hx, hb, hml, hown, hts⟩ (C_X3_placeInBlock l dC dI cI cZ cP N0 tO qr a (by omega) (by omega)) (va_cwS 2 hts gX3_measure_X3_placeInBlock rfl rfl rfl (by decide +kernel) ⟨Nat.le_of_ble_eq_true rfl, Nat.le_of_ble_eq_true rfl⟩) ⟨Gv.blind, Gv.of (hE.S hS hAN) trivial⟩ rfl rfl hl.1 rfl (lv_room (Nat.le_of_ble_eq_true rfl)) dX3_measure_26 ⟨Nat.le_of_ble_eq_true rfl, Nat.le_of_ble_eq_true rfl⟩)) (fun r_4 hr_4 => ?_)
              have hr_4 : r_4 = nI (pib qr a) := hr_4
              refine lv_topr hr_4 ?_
              refine lv_istore (lv' := [(8, .int (nI (pib qr a))), (7, .int (nI a)), (6, .int (nI qr)), (5, .int x5), (0, .ref h0), (1, .ref hC), (2, .int (nI b)), (3, .int q), (4, .ref hV)]) hx hb dX3_measure_29 hl (by decide) rfl (fun ls hl => ?_)
              refine lv_iload_n hx hb dX3_measure_31 rfl (lv_at hl 6 rfl) ?_
              refine lv_iload hx hb dX3_measure_32 (lv_at hl 0 rfl) ?_
              refine vp_callSi (va_Run.run (va_runS (As := [.int (nI b), .int (nI (pib qr a))]) (rest := []) ⟨hx, hb, hml, hown, hts⟩ (C_X3_pointOf l dC dI cI cZ cP N0 tO b (pib qr a) h1 (pib_lt (by omega) (by omega))) (va_cwS 2 hts gX3_measure_X3_pointOf rfl rfl rfl (by decide +kernel) ⟨Nat.le_of_ble_eq_true rfl, Nat.le_of_ble_eq_true rfl⟩) ⟨Gv.blind, Gv.of (hE.S hS hAN) trivial⟩ rfl rfl hl.1 rfl (lv_room (Nat.le_of_ble_eq_true rfl)) dX3_measure_34 ⟨Nat.le_of_ble_eq_true rfl, Nat.le_of_ble_eq_true rfl⟩)) (fun r_5 hr_5 => ?_)
              have hr_5 : r_5 = nI (ptN b (pib qr a)) := hr_5
              refine lv_topr hr_5 ?_
              refine lv_istore (lv' := [(9, .int (nI (ptN b (pib qr a)))), (8, .int (nI (pib qr a))), (7, .int (nI a)), (6, .int (nI qr)), (5, .int x5), (0, .ref h0), (1, .ref hC), (2, .int (nI b)), (3, .int q), (4, .ref hV)]) hx hb dX3_measure_37 hl (by decide) rfl (fun ls hl => ?_)
              refine lv_aload_n hx hb dX3_measure_39 rfl (lv_at hl 5 rfl) ?_
              refine va_get (D := (dC, dI)) (ci := 3) (v := .ref hQ) (C := RX3) (T := TX3) (N := 4) hx hb hts hinX3 hown hK hP 0 rfl rfl 1 (by decide) (hts (.fieldLink RX3 15 "GreyReel$Studio" "quarterNumbers" "[I") (List.mem_of_getElem? (i := 1) (by decide +kernel))) (fun _ h9 => h9) rfl dX3_measure_40 ?_
              refine lv_iload hx hb dX3_measure_43 (lv_at hl 2 rfl) ?_
              refine lv_aload_n hx hb dX3_measure_45 rfl (lv_at hl 6 rfl) ?_
              refine lv_iload hx hb dX3_measure_46 (lv_at hl 0 rfl) ?_
              refine wa_iald (D := (dC, dI)) (i := (ptN b (pib qr a))) (f := fc) hx hb hK hP 2 0 rfl rfl (ptN_lt h1 (pib_lt (by omega) (by omega))) (by omega) dX3_measure_48 ?_
              refine lv_aload_n hx hb dX3_measure_49 rfl (lv_at hl 5 rfl) ?_
              refine va_get (D := (dC, dI)) (ci := 3) (v := .ref hF) (C := RX3) (T := TX3) (N := 4) hx hb hts hinX3 hown hK hP 0 rfl rfl 3 (by decide) (hts (.fieldLink RX3 21 "GreyReel$Studio" "foretold" "[I") (List.mem_of_getElem? (i := 2) (by decide +kernel))) (fun _ h9 => h9) rfl dX3_measure_50 ?_
              refine lv_iload hx hb dX3_measure_53 (lv_at hl 1 rfl) ?_
              refine wa_iald (D := (dC, dI)) (i := (pib qr a)) (f := ff) hx hb hK hP 3 0 rfl rfl (pib_lt (by omega) (by omega)) (by omega) dX3_measure_55 ?_
              refine lv_isub hx hb dX3_measure_56 ?_
              refine lv_topi (fun x_6 ex_6 => ?_)
              refine wa_iast (D := (dC, dI)) (i := a) (f := f2) hx hb hK hP (hN.D rfl) hS (List.mem_of_getElem? (i := 0) rfl) 1 0 rfl rfl (by omega) (by omega) dX3_measure_57 (fun H locs hP hS => ?_)
              obtain ⟨f_7, ef_7⟩ : ∃ z, z = upd f2 a x_6 := ⟨_, rfl⟩
              rw [← ef_7] at hP
              have hP : va_P (dC, dI) vwCl [(h0, .inr (3, [.ref hA, .ref hQ, .ref hM, .ref hF])), (hQ, .inl (cI, 16, .inl f_7)), (hC, .inl (cI, 768, .inl fc)), (hF, .inl (cI, 64, .inl ff)), (hV, .inl (cI, 768, .inl v1))] H := hP
              refine lv_iinc (v := nI (a + 1)) (lv' := [(7, .int (nI (a + 1))), (9, .int (nI (ptN b (pib qr a)))), (8, .int (nI (pib qr a))), (6, .int (nI qr)), (5, .int x5), (0, .ref h0), (1, .ref hC), (2, .int (nI b)), (3, .int q), (4, .ref hV)]) hx hb dX3_measure_58 hl (k := 2) rfl (show nI a + Int32.ofInt 1 = nI (a + 1) from nI_add _ _) (by decide) rfl (fun ls hl => ?_)
              refine lv_goto (tgt := 15) hx hb dX3_measure_61 (by decide) ?_
              exact ih15 (a + 1) f_7 (by omega) (by omega) (by rw [ef_7, ex_6, ef2]; exact fillTo_s _ _ _ rfl) _ _ _ hP hS (lv_sub hl [0, 3, 4, 5, 6, 7, 8, 9] rfl)
        exact L15 (16 + 1) 0 f1 (by omega) (Nat.lt_succ_self _) (fillTo_0 _ _).symm _ _ _ hP hS (lv_sub hl [0, 1, 2, 3, 4, 5, 6, 7] rfl)
  exact L6 (4 + 1) 0 1 fq fv (by omega) (Nat.lt_succ_self _) rfl (by rw [Nat.zero_mul]; exact (segTo_0 _ _ _).symm) _ _ _ hP hS (lv_sub hl [0, 1, 2, 3, 4, 5, 6] rfl)
set_option maxHeartbeats 4000000 in
set_option maxRecDepth 100000 in
theorem C_X3_makeBlock (l : Launch) (dC : Nat → ClassId) (dI : Nat → Nat → Nat) (cI cZ cP : ClassId) (N0 tO : Nat) (h0 hA hQ hM hF : Nat) (hV : Nat) (fq fm ff fv : Nat → Int32) (b : Nat) (q : Int32) (h1 : b < 12) : Met l yX3_makeBlock wsX3_makeBlock ({ frames := 2, cells := 0, slots := 0, locals := 47 } : Room) (Gv (dC, dI) cI cZ cP N0 tO [.ref h0, .int (nI b), .int q, .ref hV] (fun H => va_P (dC, dI) vwCl [(h0, .inr (3, [.ref hA, .ref hQ, .ref hM, .ref hF])), (hQ, .inl (cI, 16, .inl fq)), (hM, .inl (cI, 768, .inl fm)), (hF, .inl (cI, 64, .inl ff)), (hV, .inl (cI, 768, .inl fv))] H ∧ AD N0 [h0, hQ, hM, hF, hV])) (va_Qv (fun (fz : (Nat → Int32)) => True) (fun (fz : (Nat → Int32)) (t : State) => va_P (dC, dI) vwCl [(hQ, .inl (cI, 16, .inl fz)), (hM, .inl (cI, 768, .inl (mdB (mkF ff fv b q) fm b)))] t.heap) (inL [hQ, hM])) 0 0 (inL [hQ, hM]) := by
  refine Met.ofW (cc := cX3_makeBlock) (maxL := 8) (ret := none) (by decide) rfl ?_
  intro p e s m args below meth c s₁ B hml hv
  obtain ⟨rfl, hE, hP, hN⟩ := hv
  have hx := B.exec
  have hb := B.bytes
  have hr := B.returns
  have hts := atoms_spec (ws := wsX3_makeBlock) B.pre
  have hown : s.vm.findClass RX3 = some m.cls := findClass_of_methodNamed B.named
  have hlocks := B.notSynchronized
  have hK := hE.1
  have hNS := hE.2.1
  have hS : va_S (inL [hQ, hM]) s.heap s.heap [] := va_S.rf
  have hAN : ∀ q : Nat, (inL [hQ, hM]) q → N0 ≤ q := fun q h => hN.in [1, 2] rfl q h
  have hP : va_P (dC, dI) vwCl [(h0, .inr (3, [.ref hA, .ref hQ, .ref hM, .ref hF])), (hQ, .inl (cI, 16, .inl fq)), (hM, .inl (cI, 768, .inl fm)), (hF, .inl (cI, 64, .inl ff)), (hV, .inl (cI, 768, .inl fv))] s.heap := hP
  have hinX3 : ∀ w ∈ wsX30, w ∈ wsX3_makeBlock := by decide +kernel
  have hl := lv_entry ([.ref h0, .int (nI b), .int q, .ref hV]) (n := 8) (Nat.le_of_ble_eq_true rfl)
  rw [lg_entry_eq]
  generalize (lg_sl ([.ref h0, .int (nI b), .int q, .ref hV]) ++ List.replicate (8 - (lg_sl ([.ref h0, .int (nI b), .int q, .ref hV])).length) Slot.unset).toArray = ls at hl ⊢
  have hl : lv_has ls 8 [(0, .ref h0), (1, .int (nI b)), (2, .int q), (3, .ref hV)] := hl
  refine lv_iconst (v := 0) hx hb dX3_makeBlock_0 (by decide) ?_
  refine lv_istore (lv' := [(4, .int 0), (0, .ref h0), (1, .int (nI b)), (2, .int q), (3, .ref hV)]) hx hb dX3_makeBlock_1 hl (by decide) rfl (fun ls hl => ?_)
  have L3 : ∀ (n3 : Nat) (qr : Nat) (f1 : Nat → Int32) (m1 : Nat → Int32), (qr ≤ 4) → 4 - qr < n3 → m1 = (mdTo zO (mkF ff fv b q) fm b (qr * 16)) → ∀ (H : Heap) (locs : List Loc) (ls : Array Slot), va_P (dC, dI) vwCl [(h0, .inr (3, [.ref hA, .ref hQ, .ref hM, .ref hF])), (hQ, .inl (cI, 16, .inl f1)), (hM, .inl (cI, 768, .inl m1)), (hF, .inl (cI, 64, .inl ff)), (hV, .inl (cI, 768, .inl fv))] H → va_S (inL [hQ, hM]) s.heap H locs → lv_has ls 8 [(4, .int (nI qr)), (0, .ref h0), (1, .int (nI b)), (2, .int q), (3, .ref hV)] → W p l e (headSpec wsX3_makeBlock ({ frames := 2, cells := 0, slots := 0, locals := 47 } : Room)).room s m ([.ref h0, .int (nI b), .int q, .ref hV] : List Value).toArray below meth c H locs 0 0 (MQ below (va_Qv (fun (fz : (Nat → Int32)) => True) (fun (fz : (Nat → Int32)) (t : State) => va_P (dC, dI) vwCl [(hQ, .inl (cI, 16, .inl fz)), (hM, .inl (cI, 768, .inl (mdB (mkF ff fv b q) fm b)))] t.heap) (inL [hQ, hM])) ([.ref h0, .int (nI b), .int q, .ref hV] : List Value).toArray s 0 0 (inL [hQ, hM])) (F0 m 3 ls []) := by
    intro n3
    induction n3 with
    | zero => intro qr f1 m1 hqr hz; exact absurd hz (Nat.not_lt_zero _)
    | succ n3 ih3 =>
      intro qr f1 m1 hqr hfu em1 H locs ls hP hS hl
      refine lv_iload hx hb dX3_makeBlock_3 (lv_at hl 0 rfl) ?_
      refine lv_iconst (v := 4) hx hb dX3_makeBlock_5 (by decide) ?_
      refine lv_icmp_ge (tgt := 128) hx hb dX3_makeBlock_6 (by decide) (fun c6 => ?_) (fun c6 => ?_)
      · skip
        have c6 : 4 ≤ qr := (nI_leI (a := 4) (b := qr) (by omega) (by omega)).mp c6
        obtain rfl : qr = 4 := by omega
        have hz9 : m1 = (mdB (mkF ff fv b q) fm b) := (by rw [em1]; exact mdTo_64 _ _ _ zO_lt)
        rw [hz9] at hP
        clear hz9
        have hP : va_P (dC, dI) vwCl [(h0, .inr (3, [.ref hA, .ref hQ, .ref hM, .ref hF])), (hQ, .inl (cI, 16, .inl f1)), (hM, .inl (cI, 768, .inl (mdB (mkF ff fv b q) fm b))), (hF, .inl (cI, 64, .inl ff)), (hV, .inl (cI, 768, .inl fv))] H := hP
        exact W.vret hx hb hr (fun t ht hW => ⟨⟨f1, rfl, trivial, by show va_P _ _ _ t.heap; rw [ht]; exact hP.sub [1, 2] rfl⟩, hS.F ht⟩) hS.2.2 dX3_makeBlock_128
      · skip
        have c6 : ¬ 4 ≤ qr := fun z => c6 ((nI_leI (a := 4) (b := qr) (by omega) (by omega)).mpr z)
        refine lv_iload_n hx hb dX3_makeBlock_9 rfl (lv_at hl 2 rfl) ?_
        refine lv_bipush (v := 64) hx hb dX3_makeBlock_10 (by decide +kernel) ?_
        refine lv_imul hx hb dX3_makeBlock_12 ?_
        refine lv_topr (show _ = nI (b * 64) from pk_mul b 64) ?_
        refine lv_iload hx hb dX3_makeBlock_13 (lv_at hl 0 rfl) ?_
        refine lv_bipush (v := 16) hx hb dX3_makeBlock_15 (by decide +kernel) ?_
        refine lv_imul hx hb dX3_makeBlock_17 ?_
        refine lv_topr (show _ = nI (qr * 16) from pk_mul qr 16) ?_
        refine lv_iadd hx hb dX3_makeBlock_18 ?_
        refine lv_topr (show _ = nI ((b * 64) + (qr * 16)) from nI_add (b * 64) (qr * 16)) ?_
        refine lv_istore (lv' := [(5, .int (nI ((b * 64) + (qr * 16)))), (4, .int (nI qr)), (0, .ref h0), (1, .int (nI b)), (2, .int q), (3, .ref hV)]) hx hb dX3_makeBlock_19 hl (by decide) rfl (fun ls hl => ?_)
        refine lv_iconst (v := 0) hx hb dX3_makeBlock_21 (by decide) ?_
        refine lv_istore (lv' := [(6, .int 0), (5, .int (nI ((b * 64) + (qr * 16)))), (4, .int (nI qr)), (0, .ref h0), (1, .int (nI b)), (2, .int q), (3, .ref hV)]) hx hb dX3_makeBlock_22 hl (by decide) rfl (fun ls hl => ?_)
        have L24 : ∀ (n24 : Nat) (pl : Nat) (f2 : Nat → Int32), (pl ≤ 16) → 16 - pl < n24 → f2 = (permTo (dqF fv b q qr) f1 pl) → ∀ (H : Heap) (locs : List Loc) (ls : Array Slot), va_P (dC, dI) vwCl [(h0, .inr (3, [.ref hA, .ref hQ, .ref hM, .ref hF])), (hQ, .inl (cI, 16, .inl f2)), (hM, .inl (cI, 768, .inl m1)), (hF, .inl (cI, 64, .inl ff)), (hV, .inl (cI, 768, .inl fv))] H → va_S (inL [hQ, hM]) s.heap H locs → lv_has ls 8 [(6, .int (nI pl)), (5, .int (nI ((b * 64) + (qr * 16)))), (4, .int (nI qr)), (0, .ref h0), (1, .int (nI b)), (2, .int q), (3, .ref hV)] → W p l e (headSpec wsX3_makeBlock ({ frames := 2, cells := 0, slots := 0, locals := 47 } : Room)).room s m ([.ref h0, .int (nI b), .int q, .ref hV] : List Value).toArray below meth c H locs 0 0 (MQ below (va_Qv (fun (fz : (Nat → Int32)) => True) (fun (fz : (Nat → Int32)) (t : State) => va_P (dC, dI) vwCl [(hQ, .inl (cI, 16, .inl fz)), (hM, .inl (cI, 768, .inl (mdB (mkF ff fv b q) fm b)))] t.heap) (inL [hQ, hM])) ([.ref h0, .int (nI b), .int q, .ref hV] : List Value).toArray s 0 0 (inL [hQ, hM])) (F0 m 24 ls []) := by
          intro n24
          induction n24 with
          | zero => intro pl f2 hpl hz; exact absurd hz (Nat.not_lt_zero _)
          | succ n24 ih24 =>
            intro pl f2 hpl hfu ef2 H locs ls hP hS hl
            refine lv_iload hx hb dX3_makeBlock_24 (lv_at hl 0 rfl) ?_
            refine lv_bipush (v := 16) hx hb dX3_makeBlock_26 (by decide +kernel) ?_
            refine lv_icmp_ge (tgt := 59) hx hb dX3_makeBlock_28 (by decide) (fun c28 => ?_) (fun c28 => ?_)
            · skip
              have c28 : 16 ≤ pl := (nI_leI (a := 16) (b := pl) (by omega) (by omega)).mp c28
              obtain rfl : pl = 16 := by omega
              have hP := hP.cong 1 (dqF fv b q qr) rfl (fun k hk => by rw [ef2]; exact permTo_at _ _ hk)
              have hP : va_P (dC, dI) vwCl [(h0, .inr (3, [.ref hA, .ref hQ, .ref hM, .ref hF])), (hQ, .inl (cI, 16, .inl (dqF fv b q qr))), (hM, .inl (cI, 768, .inl m1)), (hF, .inl (cI, 64, .inl ff)), (hV, .inl (cI, 768, .inl fv))] H := hP
              refine lv_aload_n hx hb dX3_makeBlock_59 rfl (lv_at hl 3 rfl) ?_
              refine va_callv (va_runV (As := []) (rest := []) ⟨hx, hb, hml, hown, hts⟩ (C_X3_turnQuarter l dC dI cI cZ cP N0 tO h0 hA hQ hM hF (dqF fv b q qr) ) (cwV 0 hts gX3_makeBlock_X3_turnQuarter rfl rfl rfl (by decide +kernel) ⟨Nat.le_of_ble_eq_true rfl, Nat.le_of_ble_eq_true rfl⟩) ⟨Gv.blind, va_recv hK hP (ci := 3) (q0 := 0) rfl rfl, Gv.of (hE.S hS hAN) ⟨(hP.sub [0, 1] rfl), hN.sub [0, 1] (by decide) rfl⟩⟩ rfl rfl hl.1 rfl (lv_room (Nat.le_of_ble_eq_true rfl)) dX3_makeBlock_60 ⟨Nat.le_of_ble_eq_true rfl, Nat.le_of_ble_eq_true rfl⟩) hS (fun q _ h => inL_sub [0] rfl q h) (inL_sub [0] rfl) (fun u t H locs ht hvm hw hB hz1 hk1 hS => ?_)
              rw [ht] at hB
              have hP := va_back (L := [hQ]) hP hN rfl [1] rfl rfl (fun q h1 h2 => hk1 q h1 h2) hB
              clear hB hk1 hz1 hvm ht t
              have hP : va_P (dC, dI) vwCl [(h0, .inr (3, [.ref hA, .ref hQ, .ref hM, .ref hF])), (hQ, .inl (cI, 16, .inl (turnQ (dqF fv b q qr)))), (hM, .inl (cI, 768, .inl m1)), (hF, .inl (cI, 64, .inl ff)), (hV, .inl (cI, 768, .inl fv))] H := hP
              have hw : True := hw
              have hwr_1 := hw
              refine lv_iconst (v := 0) hx hb dX3_makeBlock_63 (by decide) ?_
              refine lv_istore (lv' := [(6, .int 0), (5, .int (nI ((b * 64) + (qr * 16)))), (4, .int (nI qr)), (0, .ref h0), (1, .int (nI b)), (2, .int q), (3, .ref hV)]) hx hb dX3_makeBlock_64 hl (by decide) rfl (fun ls hl => ?_)
              have L66 : ∀ (n66 : Nat) (a : Nat) (m2 : Nat → Int32), (a ≤ 16) → 16 - a < n66 → m2 = (mdTo zO (mkF ff fv b q) fm b (qr * 16 + a)) → ∀ (H : Heap) (locs : List Loc) (ls : Array Slot), va_P (dC, dI) vwCl [(h0, .inr (3, [.ref hA, .ref hQ, .ref hM, .ref hF])), (hQ, .inl (cI, 16, .inl (turnQ (dqF fv b q qr)))), (hM, .inl (cI, 768, .inl m2)), (hF, .inl (cI, 64, .inl ff)), (hV, .inl (cI, 768, .inl fv))] H → va_S (inL [hQ, hM]) s.heap H locs → lv_has ls 8 [(6, .int (nI a)), (5, .int (nI ((b * 64) + (qr * 16)))), (4, .int (nI qr)), (0, .ref h0), (1, .int (nI b)), (2, .int q), (3, .ref hV)] → W p l e (headSpec wsX3_makeBlock ({ frames := 2, cells := 0, slots := 0, locals := 47 } : Room)).room s m ([.ref h0, .int (nI b), .int q, .ref hV] : List Value).toArray below meth c H locs 0 0 (MQ below (va_Qv (fun (fz : (Nat → Int32)) => True) (fun (fz : (Nat → Int32)) (t : State) => va_P (dC, dI) vwCl [(hQ, .inl (cI, 16, .inl fz)), (hM, .inl (cI, 768, .inl (mdB (mkF ff fv b q) fm b)))] t.heap) (inL [hQ, hM])) ([.ref h0, .int (nI b), .int q, .ref hV] : List Value).toArray s 0 0 (inL [hQ, hM])) (F0 m 66 ls []) := by
                intro n66
                induction n66 with
                | zero => intro a m2 ha hz; exact absurd hz (Nat.not_lt_zero _)
                | succ n66 ih66 =>
                  intro a m2 ha hfu em2 H locs ls hP hS hl
                  refine lv_iload hx hb dX3_makeBlock_66 (lv_at hl 0 rfl) ?_
                  refine lv_bipush (v := 16) hx hb dX3_makeBlock_68 (by decide +kernel) ?_
                  refine lv_icmp_ge (tgt := 122) hx hb dX3_makeBlock_70 (by decide) (fun c70 => ?_) (fun c70 => ?_)
                  · skip
                    have c70 : 16 ≤ a := (nI_leI (a := 16) (b := a) (by omega) (by omega)).mp c70
                    obtain rfl : a = 16 := by omega
                    refine lv_iinc (v := nI (qr + 1)) (lv' := [(4, .int (nI (qr + 1))), (6, .int (nI 16)), (5, .int (nI ((b * 64) + (qr * 16)))), (0, .ref h0), (1, .int (nI b)), (2, .int q), (3, .ref hV)]) hx hb dX3_makeBlock_122 hl (k := 2) rfl (show nI qr + Int32.ofInt 1 = nI (qr + 1) from nI_add _ _) (by decide) rfl (fun ls hl => ?_)
                    refine lv_goto (tgt := 3) hx hb dX3_makeBlock_125 (by decide) ?_
                    exact ih3 (qr + 1) (turnQ (dqF fv b q qr)) m2 (by omega) (by omega) (by rw [em2]; congr 1; omega) _ _ _ hP hS (lv_sub hl [0, 3, 4, 5, 6] rfl)
                  · skip
                    have c70 : ¬ 16 ≤ a := fun z => c70 ((nI_leI (a := 16) (b := a) (by omega) (by omega)).mpr z)
                    refine lv_iload hx hb dX3_makeBlock_73 (lv_at hl 2 rfl) ?_
                    refine lv_iload hx hb dX3_makeBlock_75 (lv_at hl 0 rfl) ?_
                    refine vp_callSi (va_Run.run (va_runS (As := [.int (nI qr), .int (nI a)]) (rest := []) ⟨hx, hb, hml, hown, hts⟩ (C_X3_placeInBlock l dC dI cI cZ cP N0 tO qr a (by omega) (by omega)) (va_cwS 2 hts gX3_makeBlock_X3_placeInBlock rfl rfl rfl (by decide +kernel) ⟨Nat.le_of_ble_eq_true rfl, Nat.le_of_ble_eq_true rfl⟩) ⟨Gv.blind, Gv.of (hE.S hS hAN) trivial⟩ rfl rfl hl.1 rfl (lv_room (Nat.le_of_ble_eq_true rfl)) dX3_makeBlock_77 ⟨Nat.le_of_ble_eq_true rfl, Nat.le_of_ble_eq_true rfl⟩)) (fun r_2 hr_2 => ?_)
                    have hr_2 : r_2 = nI (pib qr a) := hr_2
                    refine lv_topr hr_2 ?_
                    refine lv_istore (lv' := [(7, .int (nI (pib qr a))), (6, .int (nI a)), (5, .int (nI ((b * 64) + (qr * 16)))), (4, .int (nI qr)), (0, .ref h0), (1, .int (nI b)), (2, .int q), (3, .ref hV)]) hx hb dX3_makeBlock_80 hl (by decide) rfl (fun ls hl => ?_)
                    refine lv_aload_n hx hb dX3_makeBlock_82 rfl (lv_at hl 4 rfl) ?_
                    refine va_get (D := (dC, dI)) (ci := 3) (v := .ref hM) (C := RX3) (T := TX3) (N := 4) hx hb hts hinX3 hown hK hP 0 rfl rfl 2 (by decide) (hts (.fieldLink RX3 18 "GreyReel$Studio" "made" "[I") (List.mem_of_getElem? (i := 3) (by decide +kernel))) (fun _ h9 => h9) rfl dX3_makeBlock_83 ?_
                    refine lv_iload_n hx hb dX3_makeBlock_86 rfl (lv_at hl 5 rfl) ?_
                    refine lv_iload hx hb dX3_makeBlock_87 (lv_at hl 0 rfl) ?_
                    refine vp_callSi (va_Run.run (va_runS (As := [.int (nI b), .int (nI (pib qr a))]) (rest := [.ref hM]) ⟨hx, hb, hml, hown, hts⟩ (C_X3_pointOf l dC dI cI cZ cP N0 tO b (pib qr a) h1 (pib_lt (by omega) (by omega))) (va_cwS 2 hts gX3_makeBlock_X3_pointOf rfl rfl rfl (by decide +kernel) ⟨Nat.le_of_ble_eq_true rfl, Nat.le_of_ble_eq_true rfl⟩) ⟨Gv.blind, Gv.of (hE.S hS hAN) trivial⟩ rfl rfl hl.1 rfl (lv_room (Nat.le_of_ble_eq_true rfl)) dX3_makeBlock_89 ⟨Nat.le_of_ble_eq_true rfl, Nat.le_of_ble_eq_true rfl⟩)) (fun r_3 hr_3 => ?_)
                    have hr_3 : r_3 = nI (ptN b (pib qr a)) := hr_3
                    refine lv_topr hr_3 ?_
                    refine lv_aload_n hx hb dX3_makeBlock_92 rfl (lv_at hl 4 rfl) ?_
                    refine va_get (D := (dC, dI)) (ci := 3) (v := .ref hF) (C := RX3) (T := TX3) (N := 4) hx hb hts hinX3 hown hK hP 0 rfl rfl 3 (by decide) (hts (.fieldLink RX3 21 "GreyReel$Studio" "foretold" "[I") (List.mem_of_getElem? (i := 4) (by decide +kernel))) (fun _ h9 => h9) rfl dX3_makeBlock_93 ?_
                    refine lv_iload hx hb dX3_makeBlock_96 (lv_at hl 0 rfl) ?_
                    refine wa_iald (D := (dC, dI)) (i := (pib qr a)) (f := ff) hx hb hK hP 3 0 rfl rfl (pib_lt (by omega) (by omega)) (by omega) dX3_makeBlock_98 ?_
                    refine lv_aload_n hx hb dX3_makeBlock_99 rfl (lv_at hl 4 rfl) ?_
                    refine va_get (D := (dC, dI)) (ci := 3) (v := .ref hQ) (C := RX3) (T := TX3) (N := 4) hx hb hts hinX3 hown hK hP 0 rfl rfl 1 (by decide) (hts (.fieldLink RX3 15 "GreyReel$Studio" "quarterNumbers" "[I") (List.mem_of_getElem? (i := 1) (by decide +kernel))) (fun _ h9 => h9) rfl dX3_makeBlock_100 ?_
                    refine lv_iload hx hb dX3_makeBlock_103 (lv_at hl 1 rfl) ?_
                    refine wa_iald (D := (dC, dI)) (i := a) (f := (turnQ (dqF fv b q qr))) hx hb hK hP 1 0 rfl rfl (by omega) (by omega) dX3_makeBlock_105 ?_
                    refine lv_bipush (v := 8) hx hb dX3_makeBlock_106 (by decide +kernel) ?_
                    refine lv_iadd hx hb dX3_makeBlock_108 ?_
                    refine lv_iconst (v := 4) hx hb dX3_makeBlock_109 (by decide) ?_
                    refine lv_ishr hx hb dX3_makeBlock_110 ?_
                    refine lv_iadd hx hb dX3_makeBlock_111 ?_
                    refine vp_callSi (va_Run.run (va_runSN (As := [.int ((ff (pib qr a)) + ((((turnQ (dqF fv b q qr)) a) + 8) >>> (4 &&& 31)))]) (rest := [.int (nI (ptN b (pib qr a))), .ref hM]) ⟨hx, hb, hml, hown, hts⟩ (C_X5_clip l dC dI cI cZ cP N0 tO ((ff (pib qr a)) + ((((turnQ (dqF fv b q qr)) a) + 8) >>> (4 &&& 31))) ) ⟨va_cnB 1 hts gX3_makeBlock_X5_clip_n68 rfl rfl rfl hNS.2.2.2.2.1.2.2.2 (hts (.initialized RX5) (List.mem_of_getElem? (i := 21) (by decide +kernel))) (by decide +kernel) ⟨Nat.le_of_ble_eq_true rfl, Nat.le_of_ble_eq_true rfl⟩, (hts (.static yX5_clip) (List.mem_of_getElem? (i := 23) (by decide +kernel))), trivial⟩ ⟨Gv.blind, Gv.of (hE.S hS hAN) trivial⟩ rfl rfl hl.1 rfl (lv_room (Nat.le_of_ble_eq_true rfl)) dX3_makeBlock_112 ⟨Nat.le_of_ble_eq_true rfl, Nat.le_of_ble_eq_true rfl⟩)) (fun r_4 hr_4 => ?_)
                    have hr_4 : r_4 = clipI ((ff (pib qr a)) + ((((turnQ (dqF fv b q qr)) a) + 8) >>> (4 &&& 31))) := hr_4
                    refine wa_iast (D := (dC, dI)) (i := (ptN b (pib qr a))) (f := m2) hx hb hK hP (hN.D rfl) hS (List.mem_of_getElem? (i := 1) rfl) 2 0 rfl rfl (ptN_lt h1 (pib_lt (by omega) (by omega))) (by omega) dX3_makeBlock_115 (fun H locs hP hS => ?_)
                    obtain ⟨f_5, ef_5⟩ : ∃ z, z = upd m2 (ptN b (pib qr a)) r_4 := ⟨_, rfl⟩
                    rw [← ef_5] at hP
                    have hP : va_P (dC, dI) vwCl [(h0, .inr (3, [.ref hA, .ref hQ, .ref hM, .ref hF])), (hQ, .inl (cI, 16, .inl (turnQ (dqF fv b q qr)))), (hM, .inl (cI, 768, .inl f_5)), (hF, .inl (cI, 64, .inl ff)), (hV, .inl (cI, 768, .inl fv))] H := hP
                    refine lv_iinc (v := nI (a + 1)) (lv' := [(6, .int (nI (a + 1))), (7, .int (nI (pib qr a))), (5, .int (nI ((b * 64) + (qr * 16)))), (4, .int (nI qr)), (0, .ref h0), (1, .int (nI b)), (2, .int q), (3, .ref hV)]) hx hb dX3_makeBlock_116 hl (k := 1) rfl (show nI a + Int32.ofInt 1 = nI (a + 1) from nI_add _ _) (by decide) rfl (fun ls hl => ?_)
                    refine lv_goto (tgt := 66) hx hb dX3_makeBlock_119 (by decide) ?_
                    exact ih66 (a + 1) f_5 (by omega) (by omega) (by rw [ef_5, hr_4, em2]; exact mdTo_s _ _ (pib_lt (by omega) (by omega)) (zO_pib (by omega) (by omega)) (zO_inj (by omega)) (mkF_at (by omega) (by omega)).symm) _ _ _ hP hS (lv_sub hl [0, 2, 3, 4, 5, 6, 7] rfl)
              exact L66 (16 + 1) 0 m1 (by omega) (Nat.lt_succ_self _) (by rw [em1] <;> rfl) _ _ _ hP hS (lv_sub hl [0, 1, 2, 3, 4, 5, 6] rfl)
            · skip
              have c28 : ¬ 16 ≤ pl := fun z => c28 ((nI_leI (a := 16) (b := pl) (by omega) (by omega)).mpr z)
              refine lv_aload_n hx hb dX3_makeBlock_31 rfl (lv_at hl 3 rfl) ?_
              refine va_get (D := (dC, dI)) (ci := 3) (v := .ref hQ) (C := RX3) (T := TX3) (N := 4) hx hb hts hinX3 hown hK hP 0 rfl rfl 1 (by decide) (hts (.fieldLink RX3 15 "GreyReel$Studio" "quarterNumbers" "[I") (List.mem_of_getElem? (i := 1) (by decide +kernel))) (fun _ h9 => h9) rfl dX3_makeBlock_32 ?_
              refine va_gets hx hb (hE.2.2.2.1.narrow hAN) hS hown (hts (.fieldLink RX3 80 "GreyReel$Studio" "ORDER" "[I") (List.mem_of_getElem? (i := 2) (by decide +kernel))) (fun _ h9 => h9) dX3_makeBlock_35 ?_
              refine lv_iload hx hb dX3_makeBlock_38 (lv_at hl 0 rfl) ?_
              refine va_ti hx hb (hE.2.2.2.2.narrow hAN) hS (i := nI pl) (vp_in_nI (by omega) (by omega)) (v := .int (nI (ordN pl))) (by rw [nI_clamp (by omega)]; rfl) dX3_makeBlock_40 ?_
              refine lv_aload_n hx hb dX3_makeBlock_41 rfl (lv_at hl 6 rfl) ?_
              refine lv_iload hx hb dX3_makeBlock_42 (lv_at hl 1 rfl) ?_
              refine lv_iload hx hb dX3_makeBlock_44 (lv_at hl 0 rfl) ?_
              refine lv_iadd hx hb dX3_makeBlock_46 ?_
              refine lv_topr (show _ = nI (((b * 64) + (qr * 16)) + pl) from nI_add ((b * 64) + (qr * 16)) pl) ?_
              refine wa_iald (D := (dC, dI)) (i := (((b * 64) + (qr * 16)) + pl)) (f := fv) hx hb hK hP 4 0 rfl rfl (by omega) (by omega) dX3_makeBlock_47 ?_
              refine lv_iconst (v := 4) hx hb dX3_makeBlock_48 (by decide) ?_
              refine lv_imul hx hb dX3_makeBlock_49 ?_
              refine lv_iload_n hx hb dX3_makeBlock_50 rfl (lv_at hl 5 rfl) ?_
              refine lv_imul hx hb dX3_makeBlock_51 ?_
              refine lv_topi (fun x_6 ex_6 => ?_)
              refine wa_iast (D := (dC, dI)) (i := (ordN pl)) (f := f2) hx hb hK hP (hN.D rfl) hS (List.mem_of_getElem? (i := 0) rfl) 1 0 rfl rfl (ordN_lt pl (by omega)) (by omega) dX3_makeBlock_52 (fun H locs hP hS => ?_)
              obtain ⟨f_7, ef_7⟩ : ∃ z, z = upd f2 (ordN pl) x_6 := ⟨_, rfl⟩
              rw [← ef_7] at hP
              have hP : va_P (dC, dI) vwCl [(h0, .inr (3, [.ref hA, .ref hQ, .ref hM, .ref hF])), (hQ, .inl (cI, 16, .inl f_7)), (hM, .inl (cI, 768, .inl m1)), (hF, .inl (cI, 64, .inl ff)), (hV, .inl (cI, 768, .inl fv))] H := hP
              refine lv_iinc (v := nI (pl + 1)) (lv' := [(6, .int (nI (pl + 1))), (5, .int (nI ((b * 64) + (qr * 16)))), (4, .int (nI qr)), (0, .ref h0), (1, .int (nI b)), (2, .int q), (3, .ref hV)]) hx hb dX3_makeBlock_53 hl (k := 0) rfl (show nI pl + Int32.ofInt 1 = nI (pl + 1) from nI_add _ _) (by decide) rfl (fun ls hl => ?_)
              refine lv_goto (tgt := 24) hx hb dX3_makeBlock_56 (by decide) ?_
              exact ih24 (pl + 1) f_7 (by omega) (by omega) (by rw [ef_7, ex_6, ef2]; exact permTo_s _ _ (by omega) (dqF_at (by omega))) _ _ _ hP hS (lv_sub hl [0, 1, 2, 3, 4, 5, 6] rfl)
        exact L24 (16 + 1) 0 f1 (by omega) (Nat.lt_succ_self _) (permTo_0 _ _).symm _ _ _ hP hS (lv_sub hl [0, 1, 2, 3, 4, 5, 6] rfl)
  exact L3 (4 + 1) 0 fq fm (by omega) (Nat.lt_succ_self _) (by rw [Nat.zero_mul]; exact (mdTo_0 _ _ _ _).symm) _ _ _ hP hS (lv_sub hl [0, 1, 2, 3, 4] rfl)
set_option maxHeartbeats 4000000 in
set_option maxRecDepth 100000 in
theorem C_X3_makeForetold (l : Launch) (dC : Nat → ClassId) (dI : Nat → Nat → Nat) (cI cZ cP : ClassId) (N0 tO : Nat) (h0 hA hQ hM hF : Nat) (fm ff : Nat → Int32) (b : Nat) (h1 : b < 12) : Met l yX3_makeForetold wsX3_makeForetold ({ frames := 2, cells := 0, slots := 0, locals := 41 } : Room) (Gv (dC, dI) cI cZ cP N0 tO [.ref h0, .int (nI b)] (fun H => va_P (dC, dI) vwCl [(h0, .inr (3, [.ref hA, .ref hQ, .ref hM, .ref hF])), (hM, .inl (cI, 768, .inl fm)), (hF, .inl (cI, 64, .inl ff))] H ∧ AD N0 [h0, hM, hF])) (va_Qv (fun (_ : Unit) => True) (fun (_ : Unit) (t : State) => va_P (dC, dI) vwCl [(hM, .inl (cI, 768, .inl (mdB ff fm b)))] t.heap) (inL [hM])) 0 0 (inL [hM]) := by
  refine Met.ofW (cc := cX3_makeForetold) (maxL := 3) (ret := none) (by decide) rfl ?_
  intro p e s m args below meth c s₁ B hml hv
  obtain ⟨rfl, hE, hP, hN⟩ := hv
  have hx := B.exec
  have hb := B.bytes
  have hr := B.returns
  have hts := atoms_spec (ws := wsX3_makeForetold) B.pre
  have hown : s.vm.findClass RX3 = some m.cls := findClass_of_methodNamed B.named
  have hlocks := B.notSynchronized
  have hK := hE.1
  have hNS := hE.2.1
  have hS : va_S (inL [hM]) s.heap s.heap [] := va_S.rf
  have hAN : ∀ q : Nat, (inL [hM]) q → N0 ≤ q := fun q h => hN.in [1] rfl q h
  have hP : va_P (dC, dI) vwCl [(h0, .inr (3, [.ref hA, .ref hQ, .ref hM, .ref hF])), (hM, .inl (cI, 768, .inl fm)), (hF, .inl (cI, 64, .inl ff))] s.heap := hP
  have hinX3 : ∀ w ∈ wsX30, w ∈ wsX3_makeForetold := by decide +kernel
  have hl := lv_entry ([.ref h0, .int (nI b)]) (n := 3) (Nat.le_of_ble_eq_true rfl)
  rw [lg_entry_eq]
  generalize (lg_sl ([.ref h0, .int (nI b)]) ++ List.replicate (3 - (lg_sl ([.ref h0, .int (nI b)])).length) Slot.unset).toArray = ls at hl ⊢
  have hl : lv_has ls 3 [(0, .ref h0), (1, .int (nI b))] := hl
  refine lv_iconst (v := 0) hx hb dX3_makeForetold_0 (by decide) ?_
  refine lv_istore_n (lv' := [(2, .int 0), (0, .ref h0), (1, .int (nI b))]) hx hb dX3_makeForetold_1 rfl hl (by decide) rfl (fun ls hl => ?_)
  have L2 : ∀ (n2 : Nat) (i : Nat) (m1 : Nat → Int32), (i ≤ 64) → 64 - i < n2 → m1 = (mdTo (fun k => k) ff fm b i) → ∀ (H : Heap) (locs : List Loc) (ls : Array Slot), va_P (dC, dI) vwCl [(h0, .inr (3, [.ref hA, .ref hQ, .ref hM, .ref hF])), (hM, .inl (cI, 768, .inl m1)), (hF, .inl (cI, 64, .inl ff))] H → va_S (inL [hM]) s.heap H locs → lv_has ls 3 [(2, .int (nI i)), (0, .ref h0), (1, .int (nI b))] → W p l e (headSpec wsX3_makeForetold ({ frames := 2, cells := 0, slots := 0, locals := 41 } : Room)).room s m ([.ref h0, .int (nI b)] : List Value).toArray below meth c H locs 0 0 (MQ below (va_Qv (fun (_ : Unit) => True) (fun (_ : Unit) (t : State) => va_P (dC, dI) vwCl [(hM, .inl (cI, 768, .inl (mdB ff fm b)))] t.heap) (inL [hM])) ([.ref h0, .int (nI b)] : List Value).toArray s 0 0 (inL [hM])) (F0 m 2 ls []) := by
    intro n2
    induction n2 with
    | zero => intro i m1 hi hz; exact absurd hz (Nat.not_lt_zero _)
    | succ n2 ih2 =>
      intro i m1 hi hfu em1 H locs ls hP hS hl
      refine lv_iload_n hx hb dX3_makeForetold_2 rfl (lv_at hl 0 rfl) ?_
      refine lv_bipush (v := 64) hx hb dX3_makeForetold_3 (by decide +kernel) ?_
      refine lv_icmp_ge (tgt := 30) hx hb dX3_makeForetold_5 (by decide) (fun c5 => ?_) (fun c5 => ?_)
      · skip
        have c5 : 64 ≤ i := (nI_leI (a := 64) (b := i) (by omega) (by omega)).mp c5
        obtain rfl : i = 64 := by omega
        have hz9 : m1 = (mdB ff fm b) := (by rw [em1]; exact mdTo_64 _ _ _ (fun _ h => h))
        rw [hz9] at hP
        clear hz9
        have hP : va_P (dC, dI) vwCl [(h0, .inr (3, [.ref hA, .ref hQ, .ref hM, .ref hF])), (hM, .inl (cI, 768, .inl (mdB ff fm b))), (hF, .inl (cI, 64, .inl ff))] H := hP
        exact W.vret hx hb hr (fun t ht hW => ⟨⟨(), rfl, trivial, by show va_P _ _ _ t.heap; rw [ht]; exact hP.sub [1] rfl⟩, hS.F ht⟩) hS.2.2 dX3_makeForetold_30
      · skip
        have c5 : ¬ 64 ≤ i := fun z => c5 ((nI_leI (a := 64) (b := i) (by omega) (by omega)).mpr z)
        refine lv_aload_n hx hb dX3_makeForetold_8 rfl (lv_at hl 1 rfl) ?_
        refine va_get (D := (dC, dI)) (ci := 3) (v := .ref hM) (C := RX3) (T := TX3) (N := 4) hx hb hts hinX3 hown hK hP 0 rfl rfl 2 (by decide) (hts (.fieldLink RX3 18 "GreyReel$Studio" "made" "[I") (List.mem_of_getElem? (i := 1) (by decide +kernel))) (fun _ h9 => h9) rfl dX3_makeForetold_9 ?_
        refine lv_iload_n hx hb dX3_makeForetold_12 rfl (lv_at hl 2 rfl) ?_
        refine lv_iload_n hx hb dX3_makeForetold_13 rfl (lv_at hl 0 rfl) ?_
        refine vp_callSi (va_Run.run (va_runS (As := [.int (nI b), .int (nI i)]) (rest := [.ref hM]) ⟨hx, hb, hml, hown, hts⟩ (C_X3_pointOf l dC dI cI cZ cP N0 tO b i h1 (by omega)) (va_cwS 2 hts gX3_makeForetold_X3_pointOf rfl rfl rfl (by decide +kernel) ⟨Nat.le_of_ble_eq_true rfl, Nat.le_of_ble_eq_true rfl⟩) ⟨Gv.blind, Gv.of (hE.S hS hAN) trivial⟩ rfl rfl hl.1 rfl (lv_room (Nat.le_of_ble_eq_true rfl)) dX3_makeForetold_14 ⟨Nat.le_of_ble_eq_true rfl, Nat.le_of_ble_eq_true rfl⟩)) (fun r_1 hr_1 => ?_)
        have hr_1 : r_1 = nI (ptN b i) := hr_1
        refine lv_topr hr_1 ?_
        refine lv_aload_n hx hb dX3_makeForetold_17 rfl (lv_at hl 1 rfl) ?_
        refine va_get (D := (dC, dI)) (ci := 3) (v := .ref hF) (C := RX3) (T := TX3) (N := 4) hx hb hts hinX3 hown hK hP 0 rfl rfl 3 (by decide) (hts (.fieldLink RX3 21 "GreyReel$Studio" "foretold" "[I") (List.mem_of_getElem? (i := 2) (by decide +kernel))) (fun _ h9 => h9) rfl dX3_makeForetold_18 ?_
        refine lv_iload_n hx hb dX3_makeForetold_21 rfl (lv_at hl 0 rfl) ?_
        refine wa_iald (D := (dC, dI)) (i := i) (f := ff) hx hb hK hP 2 0 rfl rfl (by omega) (by omega) dX3_makeForetold_22 ?_
        refine lv_topi (fun x_2 ex_2 => ?_)
        refine wa_iast (D := (dC, dI)) (i := (ptN b i)) (f := m1) hx hb hK hP (hN.D rfl) hS (List.mem_of_getElem? (i := 0) rfl) 1 0 rfl rfl (ptN_lt h1 (by omega)) (by omega) dX3_makeForetold_23 (fun H locs hP hS => ?_)
        obtain ⟨f_3, ef_3⟩ : ∃ z, z = upd m1 (ptN b i) x_2 := ⟨_, rfl⟩
        rw [← ef_3] at hP
        have hP : va_P (dC, dI) vwCl [(h0, .inr (3, [.ref hA, .ref hQ, .ref hM, .ref hF])), (hM, .inl (cI, 768, .inl f_3)), (hF, .inl (cI, 64, .inl ff))] H := hP
        refine lv_iinc (v := nI (i + 1)) (lv' := [(2, .int (nI (i + 1))), (0, .ref h0), (1, .int (nI b))]) hx hb dX3_makeForetold_24 hl (k := 0) rfl (show nI i + Int32.ofInt 1 = nI (i + 1) from nI_add _ _) (by decide) rfl (fun ls hl => ?_)
        refine lv_goto (tgt := 2) hx hb dX3_makeForetold_27 (by decide) ?_
        exact ih2 (i + 1) f_3 (by omega) (by omega) (by rw [ef_3, ex_2, em1]; exact mdTo_s (z := fun k => k) _ _ (by omega) rfl (fun j _ h => h) rfl) _ _ _ hP hS (lv_sub hl [0, 1, 2] rfl)
  exact L2 (64 + 1) 0 fm (by omega) (Nat.lt_succ_self _) (mdTo_0 _ _ _ _).symm _ _ _ hP hS (lv_sub hl [0, 1, 2] rfl)
set_option maxHeartbeats 4000000 in
set_option maxRecDepth 100000 in
theorem C_X3_smoothAcross (l : Launch) (dC : Nat → ClassId) (dI : Nat → Nat → Nat) (cI cZ cP : ClassId) (N0 tO : Nat) (h0 hA hQ hM hF : Nat) (fm : Nat → Int32) (a g : Nat) (q : Int32) (h1 : 2 * g ≤ a) (h2 : a + g < 768) : Met l yX3_smoothAcross wsX3_smoothAcross ({ frames := 1, cells := 0, slots := 0, locals := 32 } : Room) (Gv (dC, dI) cI cZ cP N0 tO [.ref h0, .int (nI a), .int (nI g), .int q] (fun H => va_P (dC, dI) vwCl [(h0, .inr (3, [.ref hA, .ref hQ, .ref hM, .ref hF])), (hM, .inl (cI, 768, .inl fm))] H ∧ AD N0 [h0, hM])) (va_Qv (fun (_ : Unit) => True) (fun (_ : Unit) (t : State) => va_P (dC, dI) vwCl [(hM, .inl (cI, 768, .inl (smA fm a g q)))] t.heap) (inL [hM])) 0 0 (inL [hM]) := by
  refine Met.ofW (cc := cX3_smoothAcross) (maxL := 10) (ret := none) (by decide) rfl ?_
  intro p e s m args below meth c s₁ B hml hv
  obtain ⟨rfl, hE, hP, hN⟩ := hv
  have hx := B.exec
  have hb := B.bytes
  have hr := B.returns
  have hts := atoms_spec (ws := wsX3_smoothAcross) B.pre
  have hown : s.vm.findClass RX3 = some m.cls := findClass_of_methodNamed B.named
  have hlocks := B.notSynchronized
  have hK := hE.1
  have hNS := hE.2.1
  have hS : va_S (inL [hM]) s.heap s.heap [] := va_S.rf
  have hAN : ∀ q : Nat, (inL [hM]) q → N0 ≤ q := fun q h => hN.in [1] rfl q h
  have hP : va_P (dC, dI) vwCl [(h0, .inr (3, [.ref hA, .ref hQ, .ref hM, .ref hF])), (hM, .inl (cI, 768, .inl fm))] s.heap := hP
  have hinX3 : ∀ w ∈ wsX30, w ∈ wsX3_smoothAcross := by decide +kernel
  have hl := lv_entry ([.ref h0, .int (nI a), .int (nI g), .int q]) (n := 10) (Nat.le_of_ble_eq_true rfl)
  rw [lg_entry_eq]
  generalize (lg_sl ([.ref h0, .int (nI a), .int (nI g), .int q]) ++ List.replicate (10 - (lg_sl ([.ref h0, .int (nI a), .int (nI g), .int q])).length) Slot.unset).toArray = ls at hl ⊢
  have hl : lv_has ls 10 [(0, .ref h0), (1, .int (nI a)), (2, .int (nI g)), (3, .int q)] := hl
  refine lv_aload_n hx hb dX3_smoothAcross_0 rfl (lv_at hl 0 rfl) ?_
  refine va_get (D := (dC, dI)) (ci := 3) (v := .ref hM) (C := RX3) (T := TX3) (N := 4) hx hb hts hinX3 hown hK hP 0 rfl rfl 2 (by decide) (hts (.fieldLink RX3 18 "GreyReel$Studio" "made" "[I") (List.mem_of_getElem? (i := 1) (by decide +kernel))) (fun _ h9 => h9) rfl dX3_smoothAcross_1 ?_
  refine lv_iload_n hx hb dX3_smoothAcross_4 rfl (lv_at hl 1 rfl) ?_
  refine lv_iconst (v := 2) hx hb dX3_smoothAcross_5 (by decide) ?_
  refine lv_iload_n hx hb dX3_smoothAcross_6 rfl (lv_at hl 2 rfl) ?_
  refine lv_imul hx hb dX3_smoothAcross_7 ?_
  refine lv_topr (show _ = nI (2 * g) from pk_mul 2 g) ?_
  refine lv_isub hx hb dX3_smoothAcross_8 ?_
  refine lv_topr (show _ = nI (a - (2 * g)) from pk_sub (a := a) (b := (2 * g)) (by omega)) ?_
  refine wa_iald (D := (dC, dI)) (i := (a - (2 * g))) (f := fm) hx hb hK hP 1 0 rfl rfl (by omega) (by omega) dX3_smoothAcross_9 ?_
  refine lv_topi (fun x_1 ex_1 => ?_)
  refine lv_istore (lv' := [(4, .int x_1), (0, .ref h0), (1, .int (nI a)), (2, .int (nI g)), (3, .int q)]) hx hb dX3_smoothAcross_10 hl (by decide) rfl (fun ls hl => ?_)
  refine lv_aload_n hx hb dX3_smoothAcross_12 rfl (lv_at hl 1 rfl) ?_
  refine va_get (D := (dC, dI)) (ci := 3) (v := .ref hM) (C := RX3) (T := TX3) (N := 4) hx hb hts hinX3 hown hK hP 0 rfl rfl 2 (by decide) (hts (.fieldLink RX3 18 "GreyReel$Studio" "made" "[I") (List.mem_of_getElem? (i := 1) (by decide +kernel))) (fun _ h9 => h9) rfl dX3_smoothAcross_13 ?_
  refine lv_iload_n hx hb dX3_smoothAcross_16 rfl (lv_at hl 2 rfl) ?_
  refine lv_iload_n hx hb dX3_smoothAcross_17 rfl (lv_at hl 3 rfl) ?_
  refine lv_isub hx hb dX3_smoothAcross_18 ?_
  refine lv_topr (show _ = nI (a - g) from pk_sub (a := a) (b := g) (by omega)) ?_
  refine wa_iald (D := (dC, dI)) (i := (a - g)) (f := fm) hx hb hK hP 1 0 rfl rfl (by omega) (by omega) dX3_smoothAcross_19 ?_
  refine lv_topi (fun x_2 ex_2 => ?_)
  refine lv_istore (lv' := [(5, .int x_2), (4, .int x_1), (0, .ref h0), (1, .int (nI a)), (2, .int (nI g)), (3, .int q)]) hx hb dX3_smoothAcross_20 hl (by decide) rfl (fun ls hl => ?_)
  refine lv_aload_n hx hb dX3_smoothAcross_22 rfl (lv_at hl 2 rfl) ?_
  refine va_get (D := (dC, dI)) (ci := 3) (v := .ref hM) (C := RX3) (T := TX3) (N := 4) hx hb hts hinX3 hown hK hP 0 rfl rfl 2 (by decide) (hts (.fieldLink RX3 18 "GreyReel$Studio" "made" "[I") (List.mem_of_getElem? (i := 1) (by decide +kernel))) (fun _ h9 => h9) rfl dX3_smoothAcross_23 ?_
  refine lv_iload_n hx hb dX3_smoothAcross_26 rfl (lv_at hl 3 rfl) ?_
  refine wa_iald (D := (dC, dI)) (i := a) (f := fm) hx hb hK hP 1 0 rfl rfl (by omega) (by omega) dX3_smoothAcross_27 ?_
  refine lv_topi (fun x_3 ex_3 => ?_)
  refine lv_istore (lv' := [(6, .int x_3), (5, .int x_2), (4, .int x_1), (0, .ref h0), (1, .int (nI a)), (2, .int (nI g)), (3, .int q)]) hx hb dX3_smoothAcross_28 hl (by decide) rfl (fun ls hl => ?_)
  refine lv_aload_n hx hb dX3_smoothAcross_30 rfl (lv_at hl 3 rfl) ?_
  refine va_get (D := (dC, dI)) (ci := 3) (v := .ref hM) (C := RX3) (T := TX3) (N := 4) hx hb hts hinX3 hown hK hP 0 rfl rfl 2 (by decide) (hts (.fieldLink RX3 18 "GreyReel$Studio" "made" "[I") (List.mem_of_getElem? (i := 1) (by decide +kernel))) (fun _ h9 => h9) rfl dX3_smoothAcross_31 ?_
  refine lv_iload_n hx hb dX3_smoothAcross_34 rfl (lv_at hl 4 rfl) ?_
  refine lv_iload_n hx hb dX3_smoothAcross_35 rfl (lv_at hl 5 rfl) ?_
  refine lv_iadd hx hb dX3_smoothAcross_36 ?_
  refine lv_topr (show _ = nI (a + g) from nI_add a g) ?_
  refine wa_iald (D := (dC, dI)) (i := (a + g)) (f := fm) hx hb hK hP 1 0 rfl rfl (by omega) (by omega) dX3_smoothAcross_37 ?_
  refine lv_topi (fun x_4 ex_4 => ?_)
  refine lv_istore (lv' := [(7, .int x_4), (6, .int x_3), (5, .int x_2), (4, .int x_1), (0, .ref h0), (1, .int (nI a)), (2, .int (nI g)), (3, .int q)]) hx hb dX3_smoothAcross_38 hl (by decide) rfl (fun ls hl => ?_)
  refine lv_iload hx hb dX3_smoothAcross_40 (lv_at hl 1 rfl) ?_
  refine lv_iload hx hb dX3_smoothAcross_42 (lv_at hl 2 rfl) ?_
  refine lv_isub hx hb dX3_smoothAcross_44 ?_
  refine va_mabs hx hb (hml.trans hl.1.symm) hown (hts (.methodLink RX3 53 Lib.Math.abs.name) (List.mem_of_getElem? (i := 2) (by decide +kernel))) (hts (.static Lib.Math.abs.name) (List.mem_of_getElem? (i := 3) (by decide +kernel))) (hts (.initialized "java/lang/Math") (List.mem_of_getElem? (i := 4) (by decide +kernel))) (hts (.code Lib.Math.abs.name Lib.Math.abs.code 1 (some .int)) (List.mem_of_getElem? (i := 5) (by decide +kernel))) (Nat.le_of_ble_eq_true rfl) (Nat.le_of_ble_eq_true rfl) (Nat.le_of_ble_eq_true rfl) (Nat.le_of_ble_eq_true rfl) dX3_smoothAcross_45 ?_
  refine lv_topr (show _ = absI (x_3 - x_2) from rfl) ?_
  refine lv_iconst (v := 2) hx hb dX3_smoothAcross_48 (by decide) ?_
  refine lv_iload_n hx hb dX3_smoothAcross_49 rfl (lv_at hl 7 rfl) ?_
  refine lv_iconst (v := 2) hx hb dX3_smoothAcross_50 (by decide) ?_
  refine lv_iadd hx hb dX3_smoothAcross_51 ?_
  refine lv_imul hx hb dX3_smoothAcross_52 ?_
  refine lv_icmp_gt (tgt := 60) hx hb dX3_smoothAcross_53 (by decide) (fun c53 => ?_) (fun c53 => ?_)
  · skip
    refine lv_iconst (v := 0) hx hb dX3_smoothAcross_60 (by decide) ?_
    refine lv_istore (lv' := [(8, .int 0), (7, .int x_4), (6, .int x_3), (5, .int x_2), (4, .int x_1), (0, .ref h0), (1, .int (nI a)), (2, .int (nI g)), (3, .int q)]) hx hb dX3_smoothAcross_61 hl (by decide) rfl (fun ls hl => ?_)
    refine lv_iload hx hb dX3_smoothAcross_63 (lv_at hl 0 rfl) ?_
    refine lv_if_eq (tgt := 129) hx hb dX3_smoothAcross_65 (by decide) (fun c65 => ?_) (fun c65 => ?_)
    · skip
      have c65 : 0 = 0 := (nI_eq (a := 0) (b := 0) (by omega) (by omega)).mp c65
      have hz9 : fm = smA fm a g q := by subst ex_2 ex_3; unfold smA; rw [if_pos c53]
      rw [hz9] at hP
      clear hz9
      have hP : va_P (dC, dI) vwCl [(h0, .inr (3, [.ref hA, .ref hQ, .ref hM, .ref hF])), (hM, .inl (cI, 768, .inl (smA fm a g q)))] s.heap := hP
      exact W.vret hx hb hr (fun t ht hW => ⟨⟨(), rfl, trivial, by show va_P _ _ _ t.heap; rw [ht]; exact hP.sub [1] rfl⟩, hS.F ht⟩) hS.2.2 dX3_smoothAcross_129
    · skip
      have c65 : ¬ 0 = 0 := fun z => c65 ((nI_eq (a := 0) (b := 0) (by omega) (by omega)).mpr z)
      exact False.elim (by omega)
  · skip
    refine lv_iconst (v := 1) hx hb dX3_smoothAcross_56 (by decide) ?_
    refine lv_goto (tgt := 61) hx hb dX3_smoothAcross_57 (by decide) ?_
    refine lv_istore (lv' := [(8, .int 1), (7, .int x_4), (6, .int x_3), (5, .int x_2), (4, .int x_1), (0, .ref h0), (1, .int (nI a)), (2, .int (nI g)), (3, .int q)]) hx hb dX3_smoothAcross_61 hl (by decide) rfl (fun ls hl => ?_)
    refine lv_iload hx hb dX3_smoothAcross_63 (lv_at hl 0 rfl) ?_
    refine lv_if_eq (tgt := 129) hx hb dX3_smoothAcross_65 (by decide) (fun c65 => ?_) (fun c65 => ?_)
    · skip
      have c65 : 1 = 0 := (nI_eq (a := 1) (b := 0) (by omega) (by omega)).mp c65
      exact False.elim (by omega)
    · skip
      have c65 : ¬ 1 = 0 := fun z => c65 ((nI_eq (a := 1) (b := 0) (by omega) (by omega)).mpr z)
      refine lv_iload hx hb dX3_smoothAcross_68 (lv_at hl 3 rfl) ?_
      refine lv_iload hx hb dX3_smoothAcross_70 (lv_at hl 4 rfl) ?_
      refine lv_isub hx hb dX3_smoothAcross_72 ?_
      refine va_mabs hx hb (hml.trans hl.1.symm) hown (hts (.methodLink RX3 53 Lib.Math.abs.name) (List.mem_of_getElem? (i := 2) (by decide +kernel))) (hts (.static Lib.Math.abs.name) (List.mem_of_getElem? (i := 3) (by decide +kernel))) (hts (.initialized "java/lang/Math") (List.mem_of_getElem? (i := 4) (by decide +kernel))) (hts (.code Lib.Math.abs.name Lib.Math.abs.code 1 (some .int)) (List.mem_of_getElem? (i := 5) (by decide +kernel))) (Nat.le_of_ble_eq_true rfl) (Nat.le_of_ble_eq_true rfl) (Nat.le_of_ble_eq_true rfl) (Nat.le_of_ble_eq_true rfl) dX3_smoothAcross_73 ?_
      refine lv_topr (show _ = absI (x_2 - x_1) from rfl) ?_
      refine lv_iload_n hx hb dX3_smoothAcross_76 rfl (lv_at hl 8 rfl) ?_
      refine lv_iconst (v := 2) hx hb dX3_smoothAcross_77 (by decide) ?_
      refine lv_iadd hx hb dX3_smoothAcross_78 ?_
      refine lv_icmp_gt (tgt := 129) hx hb dX3_smoothAcross_79 (by decide) (fun c79 => ?_) (fun c79 => ?_)
      · skip
        have hz9 : fm = smA fm a g q := by subst ex_1 ex_2 ex_3; unfold smA; rw [if_neg c53, if_pos c79]
        rw [hz9] at hP
        clear hz9
        have hP : va_P (dC, dI) vwCl [(h0, .inr (3, [.ref hA, .ref hQ, .ref hM, .ref hF])), (hM, .inl (cI, 768, .inl (smA fm a g q)))] s.heap := hP
        exact W.vret hx hb hr (fun t ht hW => ⟨⟨(), rfl, trivial, by show va_P _ _ _ t.heap; rw [ht]; exact hP.sub [1] rfl⟩, hS.F ht⟩) hS.2.2 dX3_smoothAcross_129
      · skip
        refine lv_iload hx hb dX3_smoothAcross_82 (lv_at hl 1 rfl) ?_
        refine lv_iload hx hb dX3_smoothAcross_84 (lv_at hl 2 rfl) ?_
        refine lv_isub hx hb dX3_smoothAcross_86 ?_
        refine va_mabs hx hb (hml.trans hl.1.symm) hown (hts (.methodLink RX3 53 Lib.Math.abs.name) (List.mem_of_getElem? (i := 2) (by decide +kernel))) (hts (.static Lib.Math.abs.name) (List.mem_of_getElem? (i := 3) (by decide +kernel))) (hts (.initialized "java/lang/Math") (List.mem_of_getElem? (i := 4) (by decide +kernel))) (hts (.code Lib.Math.abs.name Lib.Math.abs.code 1 (some .int)) (List.mem_of_getElem? (i := 5) (by decide +kernel))) (Nat.le_of_ble_eq_true rfl) (Nat.le_of_ble_eq_true rfl) (Nat.le_of_ble_eq_true rfl) (Nat.le_of_ble_eq_true rfl) dX3_smoothAcross_87 ?_
        refine lv_topr (show _ = absI (x_4 - x_3) from rfl) ?_
        refine lv_iload_n hx hb dX3_smoothAcross_90 rfl (lv_at hl 8 rfl) ?_
        refine lv_iconst (v := 2) hx hb dX3_smoothAcross_91 (by decide) ?_
        refine lv_iadd hx hb dX3_smoothAcross_92 ?_
        refine lv_icmp_gt (tgt := 129) hx hb dX3_smoothAcross_93 (by decide) (fun c93 => ?_) (fun c93 => ?_)
        · skip
          have hz9 : fm = smA fm a g q := by subst ex_1 ex_2 ex_3 ex_4; unfold smA; rw [if_neg c53, if_neg c79, if_pos c93]
          rw [hz9] at hP
          clear hz9
          have hP : va_P (dC, dI) vwCl [(h0, .inr (3, [.ref hA, .ref hQ, .ref hM, .ref hF])), (hM, .inl (cI, 768, .inl (smA fm a g q)))] s.heap := hP
          exact W.vret hx hb hr (fun t ht hW => ⟨⟨(), rfl, trivial, by show va_P _ _ _ t.heap; rw [ht]; exact hP.sub [1] rfl⟩, hS.F ht⟩) hS.2.2 dX3_smoothAcross_129
        · skip
          refine lv_iload hx hb dX3_smoothAcross_96 (lv_at hl 2 rfl) ?_
          refine lv_iload hx hb dX3_smoothAcross_98 (lv_at hl 3 rfl) ?_
          refine lv_isub hx hb dX3_smoothAcross_100 ?_
          refine lv_iconst (v := 4) hx hb dX3_smoothAcross_101 (by decide) ?_
          refine lv_idiv hx hb dX3_smoothAcross_102 (by decide) ?_
          refine lv_topi (fun x_5 ex_5 => ?_)
          refine lv_istore (lv' := [(9, .int x_5), (8, .int 1), (7, .int x_4), (6, .int x_3), (5, .int x_2), (4, .int x_1), (0, .ref h0), (1, .int (nI a)), (2, .int (nI g)), (3, .int q)]) hx hb dX3_smoothAcross_103 hl (by decide) rfl (fun ls hl => ?_)
          refine lv_aload_n hx hb dX3_smoothAcross_105 rfl (lv_at hl 6 rfl) ?_
          refine va_get (D := (dC, dI)) (ci := 3) (v := .ref hM) (C := RX3) (T := TX3) (N := 4) hx hb hts hinX3 hown hK hP 0 rfl rfl 2 (by decide) (hts (.fieldLink RX3 18 "GreyReel$Studio" "made" "[I") (List.mem_of_getElem? (i := 1) (by decide +kernel))) (fun _ h9 => h9) rfl dX3_smoothAcross_106 ?_
          refine lv_iload_n hx hb dX3_smoothAcross_109 rfl (lv_at hl 7 rfl) ?_
          refine lv_iload_n hx hb dX3_smoothAcross_110 rfl (lv_at hl 8 rfl) ?_
          refine lv_isub hx hb dX3_smoothAcross_111 ?_
          refine lv_topr (show _ = nI (a - g) from pk_sub (a := a) (b := g) (by omega)) ?_
          refine lv_iload hx hb dX3_smoothAcross_112 (lv_at hl 4 rfl) ?_
          refine lv_iload hx hb dX3_smoothAcross_114 (lv_at hl 0 rfl) ?_
          refine lv_iadd hx hb dX3_smoothAcross_116 ?_
          refine lv_topi (fun x_6 ex_6 => ?_)
          refine wa_iast (D := (dC, dI)) (i := (a - g)) (f := fm) hx hb hK hP (hN.D rfl) hS (List.mem_of_getElem? (i := 0) rfl) 1 0 rfl rfl (by omega) (by omega) dX3_smoothAcross_117 (fun H locs hP hS => ?_)
          obtain ⟨f_7, ef_7⟩ : ∃ z, z = upd fm (a - g) x_6 := ⟨_, rfl⟩
          rw [← ef_7] at hP
          have hP : va_P (dC, dI) vwCl [(h0, .inr (3, [.ref hA, .ref hQ, .ref hM, .ref hF])), (hM, .inl (cI, 768, .inl f_7))] H := hP
          refine lv_aload_n hx hb dX3_smoothAcross_118 rfl (lv_at hl 6 rfl) ?_
          refine va_get (D := (dC, dI)) (ci := 3) (v := .ref hM) (C := RX3) (T := TX3) (N := 4) hx hb hts hinX3 hown hK hP 0 rfl rfl 2 (by decide) (hts (.fieldLink RX3 18 "GreyReel$Studio" "made" "[I") (List.mem_of_getElem? (i := 1) (by decide +kernel))) (fun _ h9 => h9) rfl dX3_smoothAcross_119 ?_
          refine lv_iload_n hx hb dX3_smoothAcross_122 rfl (lv_at hl 7 rfl) ?_
          refine lv_iload hx hb dX3_smoothAcross_123 (lv_at hl 3 rfl) ?_
          refine lv_iload hx hb dX3_smoothAcross_125 (lv_at hl 0 rfl) ?_
          refine lv_isub hx hb dX3_smoothAcross_127 ?_
          refine lv_topi (fun x_8 ex_8 => ?_)
          refine wa_iast (D := (dC, dI)) (i := a) (f := f_7) hx hb hK hP (hN.D rfl) hS (List.mem_of_getElem? (i := 0) rfl) 1 0 rfl rfl (by omega) (by omega) dX3_smoothAcross_128 (fun H locs hP hS => ?_)
          obtain ⟨f_9, ef_9⟩ : ∃ z, z = upd f_7 a x_8 := ⟨_, rfl⟩
          rw [← ef_9] at hP
          have hP : va_P (dC, dI) vwCl [(h0, .inr (3, [.ref hA, .ref hQ, .ref hM, .ref hF])), (hM, .inl (cI, 768, .inl f_9))] H := hP
          have hz9 : f_9 = smA fm a g q := by subst ex_1 ex_2 ex_3 ex_4 ex_5 ex_6 ef_7 ex_8 ef_9; unfold smA; rw [if_neg c53, if_neg c79, if_neg c93]
          rw [hz9] at hP
          clear hz9
          have hP : va_P (dC, dI) vwCl [(h0, .inr (3, [.ref hA, .ref hQ, .ref hM, .ref hF])), (hM, .inl (cI, 768, .inl (smA fm a g q)))] H := hP
          exact W.vret hx hb hr (fun t ht hW => ⟨⟨(), rfl, trivial, by show va_P _ _ _ t.heap; rw [ht]; exact hP.sub [1] rfl⟩, hS.F ht⟩) hS.2.2 dX3_smoothAcross_129
set_option maxHeartbeats 4000000 in
set_option maxRecDepth 100000 in
theorem C_X3_smooth (l : Launch) (dC : Nat → ClassId) (dI : Nat → Nat → Nat) (cI cZ cP : ClassId) (N0 tO : Nat) (h0 hA hQ hM hF : Nat) (fm : Nat → Int32) (q : Int32)  : Met l yX3_smooth wsX3_smooth ({ frames := 2, cells := 0, slots := 0, locals := 61 } : Room) (Gv (dC, dI) cI cZ cP N0 tO [.ref h0, .int q] (fun H => va_P (dC, dI) vwCl [(h0, .inr (3, [.ref hA, .ref hQ, .ref hM, .ref hF])), (hM, .inl (cI, 768, .inl fm))] H ∧ AD N0 [h0, hM])) (va_Qv (fun (_ : Unit) => True) (fun (_ : Unit) (t : State) => va_P (dC, dI) vwCl [(hM, .inl (cI, 768, .inl (smF q fm)))] t.heap) (inL [hM])) 0 0 (inL [hM]) := by
  refine Met.ofW (cc := cX3_smooth) (maxL := 4) (ret := none) (by decide) rfl ?_
  intro p e s m args below meth c s₁ B hml hv
  obtain ⟨rfl, hE, hP, hN⟩ := hv
  have hx := B.exec
  have hb := B.bytes
  have hr := B.returns
  have hts := atoms_spec (ws := wsX3_smooth) B.pre
  have hown : s.vm.findClass RX3 = some m.cls := findClass_of_methodNamed B.named
  have hlocks := B.notSynchronized
  have hK := hE.1
  have hNS := hE.2.1
  have hS : va_S (inL [hM]) s.heap s.heap [] := va_S.rf
  have hAN : ∀ q : Nat, (inL [hM]) q → N0 ≤ q := fun q h => hN.in [1] rfl q h
  have hP : va_P (dC, dI) vwCl [(h0, .inr (3, [.ref hA, .ref hQ, .ref hM, .ref hF])), (hM, .inl (cI, 768, .inl fm))] s.heap := hP
  have hl := lv_entry ([.ref h0, .int q]) (n := 4) (Nat.le_of_ble_eq_true rfl)
  rw [lg_entry_eq]
  generalize (lg_sl ([.ref h0, .int q]) ++ List.replicate (4 - (lg_sl ([.ref h0, .int q])).length) Slot.unset).toArray = ls at hl ⊢
  have hl : lv_has ls 4 [(0, .ref h0), (1, .int q)] := hl
  refine lv_bipush (v := 8) hx hb dX3_smooth_0 (by decide +kernel) ?_
  refine lv_istore_n (lv' := [(2, .int 8), (0, .ref h0), (1, .int q)]) hx hb dX3_smooth_2 rfl hl (by decide) rfl (fun ls hl => ?_)
  have L3 : ∀ (n3 : Nat) (i : Nat) (m1 : Nat → Int32), (i ≤ 3) → 3 - i < n3 → m1 = (smO q fm i) → ∀ (H : Heap) (locs : List Loc) (ls : Array Slot), va_P (dC, dI) vwCl [(h0, .inr (3, [.ref hA, .ref hQ, .ref hM, .ref hF])), (hM, .inl (cI, 768, .inl m1))] H → va_S (inL [hM]) s.heap H locs → lv_has ls 4 [(2, .int (nI (8 + 8 * i))), (0, .ref h0), (1, .int q)] → W p l e (headSpec wsX3_smooth ({ frames := 2, cells := 0, slots := 0, locals := 61 } : Room)).room s m ([.ref h0, .int q] : List Value).toArray below meth c H locs 0 0 (MQ below (va_Qv (fun (_ : Unit) => True) (fun (_ : Unit) (t : State) => va_P (dC, dI) vwCl [(hM, .inl (cI, 768, .inl (smF q fm)))] t.heap) (inL [hM])) ([.ref h0, .int q] : List Value).toArray s 0 0 (inL [hM])) (F0 m 3 ls []) := by
    intro n3
    induction n3 with
    | zero => intro i m1 hi hz; exact absurd hz (Nat.not_lt_zero _)
    | succ n3 ih3 =>
      intro i m1 hi hfu em1 H locs ls hP hS hl
      refine lv_iload_n hx hb dX3_smooth_3 rfl (lv_at hl 0 rfl) ?_
      refine lv_bipush (v := 32) hx hb dX3_smooth_4 (by decide +kernel) ?_
      refine lv_icmp_ge (tgt := 41) hx hb dX3_smooth_6 (by decide) (fun c6 => ?_) (fun c6 => ?_)
      · skip
        have c6 : 32 ≤ (8 + 8 * i) := (nI_leI (a := 32) (b := (8 + 8 * i)) (by omega) (by omega)).mp c6
        obtain rfl : i = 3 := by omega
        refine lv_bipush (v := 8) hx hb dX3_smooth_41 (by decide +kernel) ?_
        refine lv_istore_n (lv' := [(2, .int 8), (0, .ref h0), (1, .int q)]) hx hb dX3_smooth_43 rfl hl (by decide) rfl (fun ls hl => ?_)
        have L44 : ∀ (n44 : Nat) (i : Nat) (m3 : Nat → Int32), (i ≤ 2) → 2 - i < n44 → m3 = (smP q (smO q fm 3) i) → ∀ (H : Heap) (locs : List Loc) (ls : Array Slot), va_P (dC, dI) vwCl [(h0, .inr (3, [.ref hA, .ref hQ, .ref hM, .ref hF])), (hM, .inl (cI, 768, .inl m3))] H → va_S (inL [hM]) s.heap H locs → lv_has ls 4 [(2, .int (nI (8 + 8 * i))), (0, .ref h0), (1, .int q)] → W p l e (headSpec wsX3_smooth ({ frames := 2, cells := 0, slots := 0, locals := 61 } : Room)).room s m ([.ref h0, .int q] : List Value).toArray below meth c H locs 0 0 (MQ below (va_Qv (fun (_ : Unit) => True) (fun (_ : Unit) (t : State) => va_P (dC, dI) vwCl [(hM, .inl (cI, 768, .inl (smF q fm)))] t.heap) (inL [hM])) ([.ref h0, .int q] : List Value).toArray s 0 0 (inL [hM])) (F0 m 44 ls []) := by
          intro n44
          induction n44 with
          | zero => intro i m3 hi hz; exact absurd hz (Nat.not_lt_zero _)
          | succ n44 ih44 =>
            intro i m3 hi hfu em3 H locs ls hP hS hl
            refine lv_iload_n hx hb dX3_smooth_44 rfl (lv_at hl 0 rfl) ?_
            refine lv_bipush (v := 24) hx hb dX3_smooth_45 (by decide +kernel) ?_
            refine lv_icmp_ge (tgt := 83) hx hb dX3_smooth_47 (by decide) (fun c47 => ?_) (fun c47 => ?_)
            · skip
              have c47 : 24 ≤ (8 + 8 * i) := (nI_leI (a := 24) (b := (8 + 8 * i)) (by omega) (by omega)).mp c47
              obtain rfl : i = 2 := by omega
              have hz9 : m3 = (smF q fm) := (by rw [em3] <;> rfl)
              rw [hz9] at hP
              clear hz9
              have hP : va_P (dC, dI) vwCl [(h0, .inr (3, [.ref hA, .ref hQ, .ref hM, .ref hF])), (hM, .inl (cI, 768, .inl (smF q fm)))] H := hP
              exact W.vret hx hb hr (fun t ht hW => ⟨⟨(), rfl, trivial, by show va_P _ _ _ t.heap; rw [ht]; exact hP.sub [1] rfl⟩, hS.F ht⟩) hS.2.2 dX3_smooth_83
            · skip
              have c47 : ¬ 24 ≤ (8 + 8 * i) := fun z => c47 ((nI_leI (a := 24) (b := (8 + 8 * i)) (by omega) (by omega)).mpr z)
              refine lv_iconst (v := 0) hx hb dX3_smooth_50 (by decide) ?_
              refine lv_istore_n (lv' := [(3, .int 0), (2, .int (nI (8 + 8 * i))), (0, .ref h0), (1, .int q)]) hx hb dX3_smooth_51 rfl hl (by decide) rfl (fun ls hl => ?_)
              have L52 : ∀ (n52 : Nat) (x : Nat) (m4 : Nat → Int32), (x ≤ 32) → 32 - x < n52 → m4 = (smH q (smP q (smO q fm 3) i) (8 + 8 * i) x) → ∀ (H : Heap) (locs : List Loc) (ls : Array Slot), va_P (dC, dI) vwCl [(h0, .inr (3, [.ref hA, .ref hQ, .ref hM, .ref hF])), (hM, .inl (cI, 768, .inl m4))] H → va_S (inL [hM]) s.heap H locs → lv_has ls 4 [(3, .int (nI x)), (2, .int (nI (8 + 8 * i))), (0, .ref h0), (1, .int q)] → W p l e (headSpec wsX3_smooth ({ frames := 2, cells := 0, slots := 0, locals := 61 } : Room)).room s m ([.ref h0, .int q] : List Value).toArray below meth c H locs 0 0 (MQ below (va_Qv (fun (_ : Unit) => True) (fun (_ : Unit) (t : State) => va_P (dC, dI) vwCl [(hM, .inl (cI, 768, .inl (smF q fm)))] t.heap) (inL [hM])) ([.ref h0, .int q] : List Value).toArray s 0 0 (inL [hM])) (F0 m 52 ls []) := by
                intro n52
                induction n52 with
                | zero => intro x m4 hx32 hz; exact absurd hz (Nat.not_lt_zero _)
                | succ n52 ih52 =>
                  intro x m4 hx32 hfu em4 H locs ls hP hS hl
                  refine lv_iload_n hx hb dX3_smooth_52 rfl (lv_at hl 0 rfl) ?_
                  refine lv_bipush (v := 32) hx hb dX3_smooth_53 (by decide +kernel) ?_
                  refine lv_icmp_ge (tgt := 77) hx hb dX3_smooth_55 (by decide) (fun c55 => ?_) (fun c55 => ?_)
                  · skip
                    have c55 : 32 ≤ x := (nI_leI (a := 32) (b := x) (by omega) (by omega)).mp c55
                    obtain rfl : x = 32 := by omega
                    refine lv_iinc (v := nI (8 + 8 * (i + 1))) (lv' := [(2, .int (nI (8 + 8 * (i + 1)))), (3, .int (nI 32)), (0, .ref h0), (1, .int q)]) hx hb dX3_smooth_77 hl (k := 1) rfl (show nI (8 + 8 * i) + Int32.ofInt 8 = nI (8 + 8 * (i + 1)) from (nI_add _ 8).trans (congrArg nI (by omega))) (by decide) rfl (fun ls hl => ?_)
                    refine lv_goto (tgt := 44) hx hb dX3_smooth_80 (by decide) ?_
                    exact ih44 (i + 1) m4 (by omega) (by omega) (by rw [em4] <;> rfl) _ _ _ hP hS (lv_sub hl [0, 2, 3] rfl)
                  · skip
                    have c55 : ¬ 32 ≤ x := fun z => c55 ((nI_leI (a := 32) (b := x) (by omega) (by omega)).mpr z)
                    refine lv_aload_n hx hb dX3_smooth_58 rfl (lv_at hl 2 rfl) ?_
                    refine lv_iload_n hx hb dX3_smooth_59 rfl (lv_at hl 1 rfl) ?_
                    refine lv_bipush (v := 32) hx hb dX3_smooth_60 (by decide +kernel) ?_
                    refine lv_imul hx hb dX3_smooth_62 ?_
                    refine lv_topr (show _ = nI ((8 + 8 * i) * 32) from pk_mul (8 + 8 * i) 32) ?_
                    refine lv_iload_n hx hb dX3_smooth_63 rfl (lv_at hl 0 rfl) ?_
                    refine lv_iadd hx hb dX3_smooth_64 ?_
                    refine lv_topr (show _ = nI (((8 + 8 * i) * 32) + x) from nI_add ((8 + 8 * i) * 32) x) ?_
                    refine lv_bipush (v := 32) hx hb dX3_smooth_65 (by decide +kernel) ?_
                    refine lv_iload_n hx hb dX3_smooth_67 rfl (lv_at hl 3 rfl) ?_
                    refine va_callv (va_runV (As := [.int (nI (((8 + 8 * i) * 32) + x)), .int 32, .int q]) (rest := []) ⟨hx, hb, hml, hown, hts⟩ (C_X3_smoothAcross l dC dI cI cZ cP N0 tO h0 hA hQ hM hF m4 (((8 + 8 * i) * 32) + x) 32 q (by omega) (by omega)) (cwV 3 hts gX3_smooth_X3_smoothAcross rfl rfl rfl (by decide +kernel) ⟨Nat.le_of_ble_eq_true rfl, Nat.le_of_ble_eq_true rfl⟩) ⟨Gv.blind, va_recv hK hP (ci := 3) (q0 := 0) rfl rfl, Gv.of (hE.S hS hAN) ⟨(hP.sub [0, 1] rfl), hN.sub [0, 1] (by decide) rfl⟩⟩ rfl rfl hl.1 rfl (lv_room (Nat.le_of_ble_eq_true rfl)) dX3_smooth_68 ⟨Nat.le_of_ble_eq_true rfl, Nat.le_of_ble_eq_true rfl⟩) hS (fun q _ h => inL_sub [0] rfl q h) (inL_sub [0] rfl) (fun u t H locs ht hvm hw hB hz1 hk1 hS => ?_)
                    rw [ht] at hB
                    have hP := va_back (L := [hM]) hP hN rfl [1] rfl rfl (fun q h1 h2 => hk1 q h1 h2) hB
                    clear hB hk1 hz1 hvm ht t
                    have hP : va_P (dC, dI) vwCl [(h0, .inr (3, [.ref hA, .ref hQ, .ref hM, .ref hF])), (hM, .inl (cI, 768, .inl (smA m4 (((8 + 8 * i) * 32) + x) 32 q)))] H := hP
                    have hw : True := hw
                    have hwr_1 := hw
                    refine lv_iinc (v := nI (x + 1)) (lv' := [(3, .int (nI (x + 1))), (2, .int (nI (8 + 8 * i))), (0, .ref h0), (1, .int q)]) hx hb dX3_smooth_71 hl (k := 0) rfl (show nI x + Int32.ofInt 1 = nI (x + 1) from nI_add _ _) (by decide) rfl (fun ls hl => ?_)
                    refine lv_goto (tgt := 52) hx hb dX3_smooth_74 (by decide) ?_
                    exact ih52 (x + 1) (smA m4 (((8 + 8 * i) * 32) + x) 32 q) (by omega) (by omega) (by rw [em4] <;> rfl) _ _ _ hP hS (lv_sub hl [0, 1, 2, 3] rfl)
              exact L52 (32 + 1) 0 m3 (by omega) (Nat.lt_succ_self _) (by rw [em3] <;> rfl) _ _ _ hP hS (lv_sub hl [0, 1, 2, 3] rfl)
        exact L44 (2 + 1) 0 m1 (by omega) (Nat.lt_succ_self _) (by rw [em1] <;> rfl) _ _ _ hP hS (lv_sub hl [0, 1, 2] rfl)
      · skip
        have c6 : ¬ 32 ≤ (8 + 8 * i) := fun z => c6 ((nI_leI (a := 32) (b := (8 + 8 * i)) (by omega) (by omega)).mpr z)
        refine lv_iconst (v := 0) hx hb dX3_smooth_9 (by decide) ?_
        refine lv_istore_n (lv' := [(3, .int 0), (2, .int (nI (8 + 8 * i))), (0, .ref h0), (1, .int q)]) hx hb dX3_smooth_10 rfl hl (by decide) rfl (fun ls hl => ?_)
        have L11 : ∀ (n11 : Nat) (y : Nat) (m2 : Nat → Int32), (y ≤ 24) → 24 - y < n11 → m2 = (smV q (smO q fm i) (8 + 8 * i) y) → ∀ (H : Heap) (locs : List Loc) (ls : Array Slot), va_P (dC, dI) vwCl [(h0, .inr (3, [.ref hA, .ref hQ, .ref hM, .ref hF])), (hM, .inl (cI, 768, .inl m2))] H → va_S (inL [hM]) s.heap H locs → lv_has ls 4 [(3, .int (nI y)), (2, .int (nI (8 + 8 * i))), (0, .ref h0), (1, .int q)] → W p l e (headSpec wsX3_smooth ({ frames := 2, cells := 0, slots := 0, locals := 61 } : Room)).room s m ([.ref h0, .int q] : List Value).toArray below meth c H locs 0 0 (MQ below (va_Qv (fun (_ : Unit) => True) (fun (_ : Unit) (t : State) => va_P (dC, dI) vwCl [(hM, .inl (cI, 768, .inl (smF q fm)))] t.heap) (inL [hM])) ([.ref h0, .int q] : List Value).toArray s 0 0 (inL [hM])) (F0 m 11 ls []) := by
          intro n11
          induction n11 with
          | zero => intro y m2 hy hz; exact absurd hz (Nat.not_lt_zero _)
          | succ n11 ih11 =>
            intro y m2 hy hfu em2 H locs ls hP hS hl
            refine lv_iload_n hx hb dX3_smooth_11 rfl (lv_at hl 0 rfl) ?_
            refine lv_bipush (v := 24) hx hb dX3_smooth_12 (by decide +kernel) ?_
            refine lv_icmp_ge (tgt := 35) hx hb dX3_smooth_14 (by decide) (fun c14 => ?_) (fun c14 => ?_)
            · skip
              have c14 : 24 ≤ y := (nI_leI (a := 24) (b := y) (by omega) (by omega)).mp c14
              obtain rfl : y = 24 := by omega
              refine lv_iinc (v := nI (8 + 8 * (i + 1))) (lv' := [(2, .int (nI (8 + 8 * (i + 1)))), (3, .int (nI 24)), (0, .ref h0), (1, .int q)]) hx hb dX3_smooth_35 hl (k := 1) rfl (show nI (8 + 8 * i) + Int32.ofInt 8 = nI (8 + 8 * (i + 1)) from (nI_add _ 8).trans (congrArg nI (by omega))) (by decide) rfl (fun ls hl => ?_)
              refine lv_goto (tgt := 3) hx hb dX3_smooth_38 (by decide) ?_
              exact ih3 (i + 1) m2 (by omega) (by omega) (by rw [em2] <;> rfl) _ _ _ hP hS (lv_sub hl [0, 2, 3] rfl)
            · skip
              have c14 : ¬ 24 ≤ y := fun z => c14 ((nI_leI (a := 24) (b := y) (by omega) (by omega)).mpr z)
              refine lv_aload_n hx hb dX3_smooth_17 rfl (lv_at hl 2 rfl) ?_
              refine lv_iload_n hx hb dX3_smooth_18 rfl (lv_at hl 0 rfl) ?_
              refine lv_bipush (v := 32) hx hb dX3_smooth_19 (by decide +kernel) ?_
              refine lv_imul hx hb dX3_smooth_21 ?_
              refine lv_topr (show _ = nI (y * 32) from pk_mul y 32) ?_
              refine lv_iload_n hx hb dX3_smooth_22 rfl (lv_at hl 1 rfl) ?_
              refine lv_iadd hx hb dX3_smooth_23 ?_
              refine lv_topr (show _ = nI ((y * 32) + (8 + 8 * i)) from nI_add (y * 32) (8 + 8 * i)) ?_
              refine lv_iconst (v := 1) hx hb dX3_smooth_24 (by decide) ?_
              refine lv_iload_n hx hb dX3_smooth_25 rfl (lv_at hl 3 rfl) ?_
              refine va_callv (va_runV (As := [.int (nI ((y * 32) + (8 + 8 * i))), .int 1, .int q]) (rest := []) ⟨hx, hb, hml, hown, hts⟩ (C_X3_smoothAcross l dC dI cI cZ cP N0 tO h0 hA hQ hM hF m2 ((y * 32) + (8 + 8 * i)) 1 q (by omega) (by omega)) (cwV 3 hts gX3_smooth_X3_smoothAcross rfl rfl rfl (by decide +kernel) ⟨Nat.le_of_ble_eq_true rfl, Nat.le_of_ble_eq_true rfl⟩) ⟨Gv.blind, va_recv hK hP (ci := 3) (q0 := 0) rfl rfl, Gv.of (hE.S hS hAN) ⟨(hP.sub [0, 1] rfl), hN.sub [0, 1] (by decide) rfl⟩⟩ rfl rfl hl.1 rfl (lv_room (Nat.le_of_ble_eq_true rfl)) dX3_smooth_26 ⟨Nat.le_of_ble_eq_true rfl, Nat.le_of_ble_eq_true rfl⟩) hS (fun q _ h => inL_sub [0] rfl q h) (inL_sub [0] rfl) (fun u t H locs ht hvm hw hB hz1 hk1 hS => ?_)
              rw [ht] at hB
              have hP := va_back (L := [hM]) hP hN rfl [1] rfl rfl (fun q h1 h2 => hk1 q h1 h2) hB
              clear hB hk1 hz1 hvm ht t
              have hP : va_P (dC, dI) vwCl [(h0, .inr (3, [.ref hA, .ref hQ, .ref hM, .ref hF])), (hM, .inl (cI, 768, .inl (smA m2 ((y * 32) + (8 + 8 * i)) 1 q)))] H := hP
              have hw : True := hw
              have hwr_2 := hw
              refine lv_iinc (v := nI (y + 1)) (lv' := [(3, .int (nI (y + 1))), (2, .int (nI (8 + 8 * i))), (0, .ref h0), (1, .int q)]) hx hb dX3_smooth_29 hl (k := 0) rfl (show nI y + Int32.ofInt 1 = nI (y + 1) from nI_add _ _) (by decide) rfl (fun ls hl => ?_)
              refine lv_goto (tgt := 11) hx hb dX3_smooth_32 (by decide) ?_
              exact ih11 (y + 1) (smA m2 ((y * 32) + (8 + 8 * i)) 1 q) (by omega) (by omega) (by rw [em2] <;> rfl) _ _ _ hP hS (lv_sub hl [0, 1, 2, 3] rfl)
        exact L11 (24 + 1) 0 m1 (by omega) (Nat.lt_succ_self _) (by rw [em1] <;> rfl) _ _ _ hP hS (lv_sub hl [0, 1, 2, 3] rfl)
  exact L3 (3 + 1) 0 fm (by omega) (Nat.lt_succ_self _) rfl _ _ _ hP hS (lv_sub hl [0, 1, 2] rfl)
