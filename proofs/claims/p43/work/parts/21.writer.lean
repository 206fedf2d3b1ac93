abbrev WST : Type := (Nat → Int32) × (Nat → Int32) × (Nat → Int32) × Nat
def put1 (row : Nat → Int32) (n : Nat) (v : Int32) : Nat → Int32 := if n / 8 < 2487 then upd row (n / 8) (row (n / 8) ||| v <<< (nI (7 - n % 8) &&& 31)) else row
def putR (num : Int32) : Nat → (Nat → Int32) → Nat → (Nat → Int32)
  | 0, row, _ => row
  | m + 1, row, n => putR num m (put1 row n (num >>> (nI m &&& 31) &&& 1)) (n + 1)
def wpF (num len : Int32) (S : WST) : WST := (putR num len.toNatClampNeg S.1 S.2.2.2, S.2.1, S.2.2.1, S.2.2.2 + len.toNatClampNeg)
theorem put_init {x len : Int32} (h : x = len - 1) (h1 : -2147483648 < len.toInt) : (len.toNatClampNeg = 0 → x < 0) ∧ ∀ j, len.toNatClampNeg = j + 1 → x = nI j := by
  subst h
  have e : (len - 1).toInt = len.toInt - 1 := by
    have h2 := len.toInt_lt
    rw [Int32.toInt_sub, show (1 : Int32).toInt = 1 from by decide]
    exact Int.bmod_eq_of_le (by omega) (by omega)
  refine ⟨fun h => ?_, fun j h => ?_⟩
  · rw [Int32.lt_iff_toInt_lt, e]
    have : len.toInt.toNat = 0 := h
    have e0 : (0 : Int32).toInt = 0 := by decide
    omega
  · have h3 : len.toInt.toNat = j + 1 := h
    have h2 := len.toInt_lt
    apply Int32.toInt_inj.mp
    rw [e, nI_toInt (by omega)]
    omega
theorem put_next {x : Int32} {j : Nat} (h : x = nI j + (-1)) (hj : j < 100) : (j = 0 → x < 0) ∧ ∀ i, j = i + 1 → x = nI i := by
  refine ⟨fun h0 => ?_, fun i hi => ?_⟩
  · subst h0; subst h; decide
  · subst hi; subst h; exact pk_m1 i
theorem put_1 {num : Int32} {j n : Nat} {f g t : Nat → Int32} (hg : putR num (j + 1) f n = t) (h : g = put1 f n (num >>> (nI j &&& 31) &&& 1)) : putR num j g (n + 1) = t := by
  rw [h, ← hg]; rfl
theorem mm_pos {mm : Nat} {x : Int32} (h : mm = 0 → x < 0) (c : ¬ x < 0) : mm = mm - 1 + 1 := by
  rcases Nat.eq_zero_or_pos mm with z | z
  · exact absurd (h z) c
  · omega
theorem mm_zero {mm : Nat} {x : Int32} (h : ∀ j, mm = j + 1 → x = nI j) (c : x < 0) (hm : mm ≤ 31) : mm = 0 := by
  rcases Nat.eq_zero_or_pos mm with z | z
  · exact z
  · rw [h (mm - 1) (by omega), Int32.lt_iff_toInt_lt, nI_toInt (by omega), show (0 : Int32).toInt = 0 from by decide] at c
    omega
def poF (cnt : Int32) (S : WST) : WST := wpF ((2 : Int32) <<< (cnt &&& 31) - 2) (cnt + 1) S
-- the k of a number
def kS (mn : Int32) : Nat → Nat
  | 0 => 0
  | i + 1 => if kS mn i < 12 ∧ (4 : Int32) <<< (nI (kS mn i) &&& 31) < mn then kS mn i + 1 else kS mn i
theorem kS_le (mn : Int32) : ∀ i, kS mn i ≤ i ∧ kS mn i ≤ 12
  | 0 => ⟨Nat.le_refl _, Nat.zero_le _⟩
  | i + 1 => by
    have h := kS_le mn i
    show (if kS mn i < 12 ∧ _ then kS mn i + 1 else kS mn i) ≤ i + 1 ∧ (if kS mn i < 12 ∧ _ then kS mn i + 1 else kS mn i) ≤ 12
    split <;> omega
theorem kS_stop {mn : Int32} {i : Nat} (h : mn ≤ (4 : Int32) <<< (nI (kS mn i) &&& 31)) : ∀ k, kS mn (i + k) = kS mn i
  | 0 => rfl
  | k + 1 => by
    rw [← Nat.add_assoc]
    show (if kS mn (i + k) < 12 ∧ (4 : Int32) <<< (nI (kS mn (i + k)) &&& 31) < mn then _ else _) = _
    rw [kS_stop h k, if_neg (fun q => nlti h q.2)]
theorem kS_s {mn : Int32} {i : Nat} (h : kS mn i = i) (h12 : i < 12) (c : ¬ mn ≤ (4 : Int32) <<< (nI i &&& 31)) : kS mn (i + 1) = i + 1 := by
  show (if kS mn i < 12 ∧ (4 : Int32) <<< (nI (kS mn i) &&& 31) < mn then kS mn i + 1 else kS mn i) = _
  rw [h, if_pos ⟨h12, lti c⟩]
theorem kS_end {mn : Int32} {k : Nat} (h : kS mn k = k) (h1 : 12 ≤ k) (h2 : k ≤ 12) : kS mn 12 = k := by
  obtain rfl : k = 12 := by omega
  exact h
theorem kS_fin {mn : Int32} {k : Nat} (h : kS mn k = k) (h2 : k ≤ 12) (c : mn ≤ (4 : Int32) <<< (nI k &&& 31)) : kS mn 12 = k := by
  obtain ⟨i, hi⟩ : ∃ i, 12 = k + i := ⟨12 - k, by omega⟩
  rw [hi, kS_stop (by rw [h]; exact c) i, h]
def kF (mn : Int32) : Nat := kS mn 12
def wnF (num : Int32) (ctx : Nat) (S : WST) : WST :=
  let k := kF (S.2.2.1 ctx)
  let T := if num >>> (nI k &&& 31) < 12 then wpF (num &&& ((1 : Int32) <<< (nI k &&& 31) - 1)) (nI k) (poF (num >>> (nI k &&& 31)) S) else wpF num 12 (wpF 4095 12 S)
  (T.1, T.2.1, upd T.2.2.1 ctx (T.2.2.1 ctx + (num - T.2.2.1 ctx / 4)), T.2.2.2)
theorem poF_n {cnt : Int32} (h : cnt < 12) (S : WST) : (poF cnt S).2.2.2 ≤ S.2.2.2 + 12 ∧ -2147483648 < (cnt + 1).toInt ∧ (cnt + 1).toInt ≤ 12 := by
  have h1 : (cnt + 1).toInt = cnt.toInt + 1 := by
    rw [Int32.lt_iff_toInt_lt, show (12 : Int32).toInt = 12 from by decide] at h
    have h2 := cnt.le_toInt
    rw [Int32.toInt_add, show (1 : Int32).toInt = 1 from by decide]
    exact Int.bmod_eq_of_le (by omega) (by omega)
  rw [Int32.lt_iff_toInt_lt, show (12 : Int32).toInt = 12 from by decide] at h
  have h2 := cnt.le_toInt
  have h3 : (cnt + 1).toNatClampNeg = (cnt + 1).toInt.toNat := rfl
  refine ⟨?_, ?_, by omega⟩
  · show S.2.2.2 + (cnt + 1).toNatClampNeg ≤ _
    omega
  · omega
-- the kinds' row
def pS (kr : Nat → Int32) (kd : Int32) : Nat → Nat
  | 0 => 0
  | i + 1 => if pS kr kd i < 4 ∧ ¬ kr (pS kr kd i) = kd then pS kr kd i + 1 else pS kr kd i
theorem pS_stop {kr : Nat → Int32} {kd : Int32} {i : Nat} (h : kr (pS kr kd i) = kd) : ∀ k, pS kr kd (i + k) = pS kr kd i
  | 0 => rfl
  | k + 1 => by
    rw [← Nat.add_assoc]
    show (if pS kr kd (i + k) < 4 ∧ ¬ kr (pS kr kd (i + k)) = kd then _ else _) = _
    rw [pS_stop h k, if_neg (fun q => q.2 h)]
theorem pS_s {kr : Nat → Int32} {kd : Int32} {i : Nat} (h : pS kr kd i = i) (h4 : i < 4) (c : ¬ kr i = kd) : pS kr kd (i + 1) = i + 1 := by
  show (if pS kr kd i < 4 ∧ ¬ kr (pS kr kd i) = kd then pS kr kd i + 1 else pS kr kd i) = _
  rw [h, if_pos ⟨h4, c⟩]
theorem pS_le (kr : Nat → Int32) (kd : Int32) : ∀ i, pS kr kd i ≤ 4
  | 0 => Nat.zero_le _
  | i + 1 => by
    have h := pS_le kr kd i
    show (if pS kr kd i < 4 ∧ _ then pS kr kd i + 1 else pS kr kd i) ≤ 4
    split <;> omega
theorem pS_end {kr : Nat → Int32} {kd : Int32} {i : Nat} (h : pS kr kd i = i) (h1 : 4 ≤ i) (h2 : i ≤ 4) : pS kr kd 4 = i := by
  obtain rfl : i = 4 := by omega
  exact h
theorem pS_fin {kr : Nat → Int32} {kd : Int32} {i : Nat} (h : pS kr kd i = i) (h2 : i ≤ 4) (c : kr i = kd) : pS kr kd 4 = i := by
  obtain ⟨z, hz⟩ : ∃ z, 4 = i + z := ⟨4 - i, by omega⟩
  rw [hz, pS_stop (by rw [h]; exact c) z, h]
def pF (kr : Nat → Int32) (kd : Int32) : Nat := pS kr kd 4
def shK (kr : Nat → Int32) (p b : Nat) : Nat → Int32 := fun j => if b < j ∧ j ≤ p then kr (j - 1) else kr j
theorem shK_0 (kr : Nat → Int32) (p : Nat) : shK kr p p = kr := by
  funext j; unfold shK; rw [if_neg (by omega)]
theorem shK_at (kr : Nat → Int32) {p b : Nat} (h : b ≤ p) : shK kr p b b = kr b := if_neg (by omega)
theorem shK_s (kr : Nat → Int32) {p b : Nat} (h : b + 1 ≤ p) {x : Int32} (hx : x = kr b) : upd (shK kr p (b + 1)) (b + 1) x = shK kr p b := by
  subst hx
  funext j
  unfold upd shK
  by_cases h1 : j = b + 1
  · subst h1; rw [if_pos rfl, if_pos ⟨by omega, h⟩]; rfl
  · rw [if_neg h1]
    by_cases h2 : b + 1 < j ∧ j ≤ p
    · rw [if_pos h2, if_pos ⟨by omega, h2.2⟩]
    · rw [if_neg h2, if_neg (by omega)]
def wkF (kd : Nat) (S : WST) : WST :=
  let p := pF S.2.1 (nI kd)
  let T : WST := (S.1, upd (shK S.2.1 p 0) 0 (nI kd), S.2.2.1, S.2.2.2)
  if p < 4 then poF (nI p) T else wpF ((1 : Int32) <<< (nI p &&& 31) - 1) (nI p) T
-- a signed number's length
def gS (v : Int32) : Nat → Nat
  | 0 => 1
  | i + 1 => if gS v i < 16 ∧ 0 < v >>> (nI (gS v i) &&& 31) then gS v i + 1 else gS v i
theorem gS_stop {v : Int32} {i : Nat} (h : v >>> (nI (gS v i) &&& 31) ≤ 0) : ∀ k, gS v (i + k) = gS v i
  | 0 => rfl
  | k + 1 => by
    rw [← Nat.add_assoc]
    show (if gS v (i + k) < 16 ∧ 0 < v >>> (nI (gS v (i + k)) &&& 31) then _ else _) = _
    rw [gS_stop h k, if_neg (fun q => nlti h q.2)]
theorem gS_s {v : Int32} {i : Nat} (h : gS v i = i + 1) (h16 : i + 1 < 16) (c : ¬ v >>> (nI (i + 1) &&& 31) ≤ 0) : gS v (i + 1) = i + 2 := by
  show (if gS v i < 16 ∧ 0 < v >>> (nI (gS v i) &&& 31) then gS v i + 1 else gS v i) = _
  rw [h, if_pos ⟨h16, lti c⟩]
theorem gS_le (v : Int32) : ∀ i, gS v i ≤ 16 ∧ 1 ≤ gS v i
  | 0 => ⟨(by show 1 ≤ 16; omega), Nat.le_refl _⟩
  | i + 1 => by
    have h := gS_le v i
    show (if gS v i < 16 ∧ _ then gS v i + 1 else gS v i) ≤ 16 ∧ 1 ≤ (if gS v i < 16 ∧ _ then gS v i + 1 else gS v i)
    split <;> omega
theorem gS_end {v : Int32} {i : Nat} (h : gS v i = i + 1) (h1 : 16 ≤ i + 1) (h2 : i ≤ 15) : gS v 15 = i + 1 := by
  obtain rfl : i = 15 := by omega
  exact h
theorem gS_fin {v : Int32} {i : Nat} (h : gS v i = i + 1) (h2 : i ≤ 15) (c : v >>> (nI (i + 1) &&& 31) ≤ 0) : gS v 15 = i + 1 := by
  obtain ⟨z, hz⟩ : ∃ z, 15 = i + z := ⟨15 - i, by omega⟩
  rw [hz, gS_stop (by rw [h]; exact c) z, h]
def gF (v : Int32) : Nat := gS v 15
def wsF (num : Int32) (S : WST) : WST := wpF (foldedI num + 1) (nI (2 * gF (foldedI num + 1) - 1)) S
-- levels of a quarter
def cS (lv : Nat → Int32) (a : Nat) : Nat → Nat
  | 0 => 0
  | c + 1 => if lv (a + c) = 0 then cS lv a c else c + 1
theorem cS_le (lv : Nat → Int32) (a : Nat) : ∀ c, cS lv a c ≤ c
  | 0 => Nat.le_refl _
  | c + 1 => by
    have := cS_le lv a c
    show (if lv (a + c) = 0 then cS lv a c else c + 1) ≤ c + 1
    split <;> omega
theorem cS_0 {lv : Nat → Int32} {a c : Nat} (h : c ≤ 0) : cS lv a c = c := by
  obtain rfl : c = 0 := by omega
  rfl
def wlS (lv : Nat → Int32) (a : Nat) (S : WST) : Nat → WST
  | 0 => S
  | i + 1 => wnF (foldedI (lv (a + i))) (if i = 0 then 2 else 1) (wlS lv a S i)
def wlF (lv : Nat → Int32) (a : Nat) (S : WST) : WST := wlS lv a (wnF (nI (cS lv a 16)) 0 S) (cS lv a 16)
theorem wpF_n {num len : Int32} {S : WST} : (wpF num len S).2.2.2 = S.2.2.2 + len.toNatClampNeg := rfl
theorem kF_le (mn : Int32) : kF mn ≤ 12 := (kS_le mn 12).2
theorem wnF_n (num : Int32) (ctx : Nat) (S : WST) : (wnF num ctx S).2.2.2 ≤ S.2.2.2 + 24 ∧ S.2.2.2 ≤ (wnF num ctx S).2.2.2 := by
  have hk := kF_le (S.2.2.1 ctx)
  have hk2 : (nI (kF (S.2.2.1 ctx))).toNatClampNeg = kF (S.2.2.1 ctx) := nI_clamp (by omega)
  show (if num >>> (nI (kF (S.2.2.1 ctx)) &&& 31) < 12 then _ else _ : WST).2.2.2 ≤ _ ∧ _ ≤ (if num >>> (nI (kF (S.2.2.1 ctx)) &&& 31) < 12 then _ else _ : WST).2.2.2
  split
  · rename_i h
    have h2 := (poF_n h S).1
    rw [wpF_n, hk2]
    have h3 : S.2.2.2 ≤ (poF (num >>> (nI (kF (S.2.2.1 ctx)) &&& 31)) S).2.2.2 := Nat.le_add_right _ _
    omega
  · rw [wpF_n, wpF_n, show (12 : Int32).toNatClampNeg = 12 from by decide]
    omega
theorem pF_le (kr : Nat → Int32) (kd : Int32) : pF kr kd ≤ 4 := pS_le kr kd 4
theorem ti_n1 {i : Nat} (h : i < 1000) : (nI i + 1).toInt = i + 1 := by rw [nI_1, nI_toInt (by omega)]; omega
theorem poF_s {i : Nat} (h : i < 12) (S : WST) : (poF (nI i) S).2.2.2 = S.2.2.2 + (i + 1) := by
  show S.2.2.2 + (nI i + 1).toNatClampNeg = _
  rw [nI_1, nI_clamp (by omega)]
theorem wkF_n (kd : Nat) (S : WST) : (wkF kd S).2.2.2 ≤ S.2.2.2 + 5 ∧ S.2.2.2 + 1 ≤ (wkF kd S).2.2.2 := by
  have h := pF_le S.2.1 (nI kd)
  unfold wkF
  dsimp only
  split
  · rw [poF_s (by omega)]; show S.2.2.2 + _ ≤ _ ∧ _ ≤ S.2.2.2 + _; omega
  · rw [wpF_n, nI_clamp (by omega)]; show S.2.2.2 + _ ≤ _ ∧ _ ≤ S.2.2.2 + _; omega
theorem gF_le (v : Int32) : gF v ≤ 16 ∧ 1 ≤ gF v := gS_le v 15
theorem wsF_n (num : Int32) (S : WST) : (wsF num S).2.2.2 ≤ S.2.2.2 + 31 ∧ S.2.2.2 ≤ (wsF num S).2.2.2 := by
  have h := gF_le (foldedI num + 1)
  unfold wsF
  rw [wpF_n, nI_clamp (by omega)]
  omega
theorem cS_dec {lv : Nat → Int32} {a c : Nat} (h1 : 1 ≤ c) (h : lv (a + c - 1) = 0) : cS lv a c = cS lv a (c - 1) := by
  obtain ⟨d, rfl⟩ : ∃ d, c = d + 1 := ⟨c - 1, by omega⟩
  show (if lv (a + d) = 0 then cS lv a d else d + 1) = cS lv a d
  rw [if_pos (by rw [show a + d = a + (d + 1) - 1 by omega]; exact h)]
theorem cS_end {lv : Nat → Int32} {a c : Nat} (h1 : 1 ≤ c) (h : ¬ lv (a + c - 1) = 0) : cS lv a c = c := by
  obtain ⟨d, rfl⟩ : ∃ d, c = d + 1 := ⟨c - 1, by omega⟩
  show (if lv (a + d) = 0 then cS lv a d else d + 1) = d + 1
  rw [if_neg (by rw [show a + d = a + (d + 1) - 1 by omega]; exact h)]
theorem nI_dec {b : Nat} (h : 1 ≤ b) : nI b + Int32.ofInt (-1) = nI (b - 1) := by
  obtain ⟨c, rfl⟩ : ∃ c, b = c + 1 := ⟨b - 1, by omega⟩
  exact pk_m1 c
theorem shK_d (kr : Nat → Int32) {p b : Nat} (h1 : 1 ≤ b) (h : b ≤ p) {x : Int32} (hx : x = kr (b - 1)) : upd (shK kr p b) b x = shK kr p (b - 1) := by
  obtain ⟨c, rfl⟩ : ∃ c, b = c + 1 := ⟨b - 1, by omega⟩
  exact shK_s kr h hx
theorem shK_lt (kr : Nat → Int32) {p b j : Nat} (h : j ≤ b) : shK kr p b j = kr j := if_neg (by omega)
theorem wlS_n (lv : Nat → Int32) (a : Nat) (S : WST) : ∀ i, (wlS lv a S i).2.2.2 ≤ S.2.2.2 + 24 * i ∧ S.2.2.2 ≤ (wlS lv a S i).2.2.2
  | 0 => ⟨Nat.le_refl _, Nat.le_refl _⟩
  | i + 1 => by
    have h := wlS_n lv a S i
    have h2 := wnF_n (foldedI (lv (a + i))) (if i = 0 then 2 else 1) (wlS lv a S i)
    show (wnF _ _ _).2.2.2 ≤ _ ∧ _ ≤ (wnF _ _ _).2.2.2
    omega
theorem wlF_n (lv : Nat → Int32) (a : Nat) (S : WST) : (wlF lv a S).2.2.2 ≤ S.2.2.2 + 408 ∧ S.2.2.2 ≤ (wlF lv a S).2.2.2 := by
  have h := cS_le lv a 16
  have h1 := wnF_n (nI (cS lv a 16)) 0 S
  have h2 := wlS_n lv a (wnF (nI (cS lv a 16)) 0 S) (cS lv a 16)
  unfold wlF
  omega
def wlQ (fv : Nat → Int32) (b : Nat) (S : WST) : Nat → WST
  | 0 => S
  | q + 1 => wlF fv (b * 64 + q * 16) (wlQ fv b S q)
theorem wlQ_n (fv : Nat → Int32) (b : Nat) (S : WST) : ∀ q, (wlQ fv b S q).2.2.2 ≤ S.2.2.2 + 408 * q ∧ S.2.2.2 ≤ (wlQ fv b S q).2.2.2
  | 0 => ⟨Nat.le_refl _, Nat.le_refl _⟩
  | q + 1 => by
    have h := wlQ_n fv b S q
    have h2 := wlF_n fv (b * 64 + q * 16) (wlQ fv b S q)
    show (wlF fv (b * 64 + q * 16) (wlQ fv b S q)).2.2.2 ≤ _ ∧ _ ≤ (wlF fv (b * 64 + q * 16) (wlQ fv b S q)).2.2.2
    generalize (wlF fv (b * 64 + q * 16) (wlQ fv b S q)).2.2.2 = x at h2 ⊢
    generalize (wlQ fv b S q).2.2.2 = y at h h2
    generalize S.2.2.2 = z at h ⊢
    rw [Nat.mul_succ]
    exact ⟨Nat.le_trans h2.1 (Nat.le_trans (Nat.add_le_add_right h.1 _) (Nat.le_of_eq (Nat.add_assoc _ _ _))), Nat.le_trans h.2 h2.2⟩
def wbV (kd : Nat → Nat) (fx fy : Nat → Int32) (b : Nat) (S : WST) : WST := if kd b = 1 then wsF (fy b - exF fy b) (wsF (fx b - exF fx b) (wkF (kd b) S)) else wkF (kd b) S
def wbF (kd : Nat → Nat) (fx fy fv : Nat → Int32) (b : Nat) (S : WST) : WST := if kd b = 0 then wbV kd fx fy b S else wlQ fv b (wbV kd fx fy b S) 4
theorem wbV_n (kd : Nat → Nat) (fx fy : Nat → Int32) (b : Nat) (S : WST) : (wbV kd fx fy b S).2.2.2 ≤ S.2.2.2 + 67 ∧ S.2.2.2 + 1 ≤ (wbV kd fx fy b S).2.2.2 := by
  have h := wkF_n (kd b) S
  unfold wbV
  split
  · have h1 := wsF_n (fx b - exF fx b) (wkF (kd b) S)
    have h2 := wsF_n (fy b - exF fy b) (wsF (fx b - exF fx b) (wkF (kd b) S))
    omega
  · omega
theorem wbF_n (kd : Nat → Nat) (fx fy fv : Nat → Int32) (b : Nat) (S : WST) : (wbF kd fx fy fv b S).2.2.2 ≤ S.2.2.2 + 1699 ∧ S.2.2.2 + 1 ≤ (wbF kd fx fy fv b S).2.2.2 := by
  have h := wbV_n kd fx fy b S
  have h2 := wlQ_n fv b (wbV kd fx fy b S) 4
  unfold wbF
  split <;> omega
-- the first n places of g, the others of f
def upTo (g f : Nat → Nat) (n : Nat) : Nat → Nat := fun k => if k < n then g k else f k
theorem upTo_0 (g f : Nat → Nat) : upTo g f 0 = f := by funext k; simp [upTo]
theorem upTo_s (g f : Nat → Nat) (n : Nat) {x : Nat} (h : x = g n) : va_up (upTo g f n) n x = upTo g f (n + 1) := by
  subst h
  funext k
  unfold va_up upTo
  by_cases h1 : k = n
  · subst h1; simp
  · rw [if_neg h1]
    by_cases h2 : k < n
    · rw [if_pos h2, if_pos (by omega)]
    · rw [if_neg h2, if_neg (by omega)]
theorem upTo_at (g f : Nat → Nat) {n k : Nat} (h : k < n) : upTo g f n k = g k := if_pos h
-- a band, and all three
def sbF (num ky q sm : Int32) (row : Nat → Int32) (n : Nat) : WST := wpF (zI sm) 1 (wpF q 6 (wpF (zI ky) 1 (wpF num 5 (row, (fun k => nI k), (fun _ => 4), n))))
theorem sbF_n (num ky q sm : Int32) (row : Nat → Int32) (n : Nat) : (sbF num ky q sm row n).2.2.2 = n + 13 := rfl
def bdS (kd : Nat → Nat) (fx fy fv : Nat → Int32) (bd : Nat) (S : WST) : Nat → WST
  | 0 => S
  | k + 1 => wbF kd fx fy fv (bd * 4 + k) (bdS kd fx fy fv bd S k)
theorem bdS_n (kd : Nat → Nat) (fx fy fv : Nat → Int32) (bd : Nat) (S : WST) : ∀ k, (bdS kd fx fy fv bd S k).2.2.2 ≤ S.2.2.2 + 1699 * k ∧ S.2.2.2 + k ≤ (bdS kd fx fy fv bd S k).2.2.2
  | 0 => ⟨Nat.le_refl _, Nat.le_refl _⟩
  | k + 1 => by
    have h := bdS_n kd fx fy fv bd S k
    have h2 := wbF_n kd fx fy fv (bd * 4 + k) (bdS kd fx fy fv bd S k)
    show (wbF kd fx fy fv (bd * 4 + k) (bdS kd fx fy fv bd S k)).2.2.2 ≤ _ ∧ _ ≤ (wbF kd fx fy fv (bd * 4 + k) (bdS kd fx fy fv bd S k)).2.2.2
    generalize (wbF kd fx fy fv (bd * 4 + k) (bdS kd fx fy fv bd S k)).2.2.2 = x at h2 ⊢
    generalize (bdS kd fx fy fv bd S k).2.2.2 = y at h h2
    generalize S.2.2.2 = z at h ⊢
    rw [Nat.mul_succ]
    exact ⟨Nat.le_trans h2.1 (Nat.le_trans (Nat.add_le_add_right h.1 _) (Nat.le_of_eq (Nat.add_assoc _ _ _))), Nat.le_trans (Nat.add_le_add_right h.2 1) h2.2⟩
section PK
variable (kd : Nat → Nat) (fx fy fv : Nat → Int32) (num ky q sm : Int32)
def bdF (bd : Nat) (row : Nat → Int32) (n : Nat) : WST := bdS kd fx fy fv bd (sbF num ky q sm row n) 4
/-- row and bits behind so many bands -/
def wrS : Nat → (Nat → Int32) × Nat
  | 0 => (fun _ => 0, 0)
  | k + 1 => ((bdF kd fx fy fv num ky q sm k (wrS k).1 (wrS k).2).1, (wrS k).2 + ((bdF kd fx fy fv num ky q sm k (wrS k).1 (wrS k).2).2.2.2 - (wrS k).2 + 7) / 8 * 8)
def ubF (bd : Nat) : Nat := (bdF kd fx fy fv num ky q sm bd (wrS kd fx fy fv num ky q sm bd).1 (wrS kd fx fy fv num ky q sm bd).2).2.2.2 - (wrS kd fx fy fv num ky q sm bd).2
theorem bdF_n (bd : Nat) (row : Nat → Int32) (n : Nat) : (bdF kd fx fy fv num ky q sm bd row n).2.2.2 ≤ n + 6809 ∧ n + 17 ≤ (bdF kd fx fy fv num ky q sm bd row n).2.2.2 := by
  have h := bdS_n kd fx fy fv bd (sbF num ky q sm row n) 4
  rw [sbF_n] at h
  unfold bdF
  omega
theorem wrS_n : ∀ k, (wrS kd fx fy fv num ky q sm k).2 ≤ 6816 * k
  | 0 => Nat.le_refl _
  | k + 1 => by
    have h := wrS_n k
    have h2 := bdF_n kd fx fy fv num ky q sm k (wrS kd fx fy fv num ky q sm k).1 (wrS kd fx fy fv num ky q sm k).2
    show (wrS kd fx fy fv num ky q sm k).2 + (_ - (wrS kd fx fy fv num ky q sm k).2 + 7) / 8 * 8 ≤ _
    omega
theorem ubF_n (bd : Nat) : 17 ≤ ubF kd fx fy fv num ky q sm bd ∧ ubF kd fx fy fv num ky q sm bd ≤ 6809 := by
  have h2 := bdF_n kd fx fy fv num ky q sm bd (wrS kd fx fy fv num ky q sm bd).1 (wrS kd fx fy fv num ky q sm bd).2
  unfold ubF
  omega
end PK
set_option maxHeartbeats 4000000 in
set_option maxRecDepth 100000 in
theorem C_X1_put (l : Launch) (dC : Nat → ClassId) (dI : Nat → Nat → Nat) (cI cZ cP : ClassId) (N0 tO : Nat) (w0 wR wK wM : Nat) (S : WST) (num len : Int32) (hnb : S.2.2.2 < 2000000) (h1 : -2147483648 < len.toInt) (h2 : len.toInt ≤ 31) : Met l yX1_put wsX1_put ({ frames := 0, cells := 0, slots := 0, locals := 0 } : Room) (Gv (dC, dI) cI cZ cP N0 tO [.ref w0, .int num, .int len] (fun H => va_P (dC, dI) vwCl [(w0, .inr (1, [.ref wR, .ref wK, .ref wM, .int (nI S.2.2.2)])), (wR, .inl (cI, 2487, .inl S.1)), (wK, .inl (cI, 5, .inl S.2.1)), (wM, .inl (cI, 3, .inl S.2.2.1))] H ∧ AD N0 [w0, wR, wK, wM])) (va_Qv (fun (S1 : WST) => S1 = wpF num len S) (fun (S1 : WST) (t : State) => va_P (dC, dI) vwCl [(w0, .inr (1, [.ref wR, .ref wK, .ref wM, .int (nI S1.2.2.2)])), (wR, .inl (cI, 2487, .inl S1.1)), (wK, .inl (cI, 5, .inl S1.2.1)), (wM, .inl (cI, 3, .inl S1.2.2.1))] t.heap) (inL [w0, wR, wK, wM])) 0 0 (inL [w0, wR, wK, wM]) := by
  refine Met.ofW (cc := cX1_put) (maxL := 5) (ret := none) (by decide) rfl ?_
  intro p e s m args below meth c s₁ B hml hv
  obtain ⟨rfl, hE, hP, hN⟩ := hv
  have hx := B.exec
  have hb := B.bytes
  have hr := B.returns
  have hts := atoms_spec (ws := wsX1_put) B.pre
  have hown : s.vm.findClass RX1 = some m.cls := findClass_of_methodNamed B.named
  have hlocks := B.notSynchronized
  have hK := hE.1
  have hNS := hE.2.1
  have hS : va_S (inL [w0, wR, wK, wM]) s.heap s.heap [] := va_S.rf
  have hAN : ∀ q : Nat, (inL [w0, wR, wK, wM]) q → N0 ≤ q := fun q h => hN.in [0, 1, 2, 3] rfl q h
  have hP : va_P (dC, dI) vwCl [(w0, .inr (1, [.ref wR, .ref wK, .ref wM, .int (nI S.2.2.2)])), (wR, .inl (cI, 2487, .inl S.1)), (wK, .inl (cI, 5, .inl S.2.1)), (wM, .inl (cI, 3, .inl S.2.2.1))] s.heap := hP
  have hinX1 : ∀ w ∈ wsX10, w ∈ wsX1_put := by decide +kernel
  have hl := lv_entry ([.ref w0, .int num, .int len]) (n := 5) (Nat.le_of_ble_eq_true rfl)
  rw [lg_entry_eq]
  generalize (lg_sl ([.ref w0, .int num, .int len]) ++ List.replicate (5 - (lg_sl ([.ref w0, .int num, .int len])).length) Slot.unset).toArray = ls at hl ⊢
  have hl : lv_has ls 5 [(0, .ref w0), (1, .int num), (2, .int len)] := hl
  have hlc : len.toNatClampNeg ≤ 31 := by show len.toInt.toNat ≤ 31; omega
  refine lv_iload_n hx hb dX1_put_0 rfl (lv_at hl 2 rfl) ?_
  refine lv_iconst (v := 1) hx hb dX1_put_1 (by decide) ?_
  refine lv_isub hx hb dX1_put_2 ?_
  refine lv_topi (fun x_1 ex_1 => ?_)
  refine lv_istore_n (lv' := [(3, .int x_1), (0, .ref w0), (1, .int num), (2, .int len)]) hx hb dX1_put_3 rfl hl (by decide) rfl (fun ls hl => ?_)
  have L4 : ∀ (n4 : Nat) (mm : Nat) (n : Nat) (x3 : Int32) (f1 : Nat → Int32), (putR num mm f1 n = putR num len.toNatClampNeg S.1 S.2.2.2) → (n + mm = S.2.2.2 + len.toNatClampNeg) → (mm ≤ 31) → ((mm = 0 → x3 < 0) ∧ ∀ j, mm = j + 1 → x3 = nI j) → mm < n4 → ∀ (H : Heap) (locs : List Loc) (ls : Array Slot), va_P (dC, dI) vwCl [(w0, .inr (1, [.ref wR, .ref wK, .ref wM, .int (nI n)])), (wR, .inl (cI, 2487, .inl f1)), (wK, .inl (cI, 5, .inl S.2.1)), (wM, .inl (cI, 3, .inl S.2.2.1))] H → va_S (inL [w0, wR, wK, wM]) s.heap H locs → lv_has ls 5 [(3, .int x3), (0, .ref w0), (1, .int num), (2, .int len)] → W p l e (headSpec wsX1_put ({ frames := 0, cells := 0, slots := 0, locals := 0 } : Room)).room s m ([.ref w0, .int num, .int len] : List Value).toArray below meth c H locs 0 0 (MQ below (va_Qv (fun (S1 : WST) => S1 = wpF num len S) (fun (S1 : WST) (t : State) => va_P (dC, dI) vwCl [(w0, .inr (1, [.ref wR, .ref wK, .ref wM, .int (nI S1.2.2.2)])), (wR, .inl (cI, 2487, .inl S1.1)), (wK, .inl (cI, 5, .inl S1.2.1)), (wM, .inl (cI, 3, .inl S1.2.2.1))] t.heap) (inL [w0, wR, wK, wM])) ([.ref w0, .int num, .int len] : List Value).toArray s 0 0 (inL [w0, wR, wK, wM])) (F0 m 4 ls []) := by
    intro n4
    induction n4 with
    | zero => intro mm n x3 f1 hg hn hm31 hx3 hz; exact absurd hz (Nat.not_lt_zero _)
    | succ n4 ih4 =>
      intro mm n x3 f1 hg hn hm31 hx3 hfu H locs ls hP hS hl
      refine lv_iload_n hx hb dX1_put_4 rfl (lv_at hl 0 rfl) ?_
      refine lv_if_lt (tgt := 69) hx hb dX1_put_5 (by decide) (fun c5 => ?_) (fun c5 => ?_)
      · skip
        have hm0 : mm = 0 := mm_zero hx3.2 c5 hm31
        exact W.vret hx hb hr (fun t ht hW => ⟨⟨(f1, S.2.1, S.2.2.1, n), rfl, (by subst hm0; unfold wpF; rw [← hg, ← hn]; rfl), by show va_P _ _ _ t.heap; rw [ht]; exact hP.sub [0, 1, 2, 3] rfl⟩, hS.F ht⟩) hS.2.2 dX1_put_69
      · skip
        obtain ⟨j, rfl⟩ : ∃ j, mm = j + 1 := ⟨mm - 1, mm_pos hx3.1 c5⟩
        have hxj := hx3.2 j rfl
        rw [hxj] at hl
        have hl : lv_has ls 5 [(3, .int (nI j)), (0, .ref w0), (1, .int num), (2, .int len)] := hl
        have hj32 : j < 32 := by omega
        refine lv_aload_n hx hb dX1_put_8 rfl (lv_at hl 1 rfl) ?_
        refine va_get (D := (dC, dI)) (ci := 1) (v := .int (nI n)) (C := RX1) (T := TX1) (N := 4) hx hb hts hinX1 hown hK hP 0 rfl rfl 3 (by decide) (hts (.fieldLink RX1 21 "GreyReel$PacketWriter" "bitsWritten" "I") (List.mem_of_getElem? (i := 1) (by decide +kernel))) (fun _ h9 => h9) rfl dX1_put_9 ?_
        refine lv_bipush (v := 8) hx hb dX1_put_12 (by decide +kernel) ?_
        refine lv_idiv hx hb dX1_put_14 (by decide) ?_
        refine lv_topr (show _ = nI (n / 8) from pk_div (a := n) (d := 8) (by omega) (by omega) (by omega)) ?_
        refine lv_istore (lv' := [(4, .int (nI (n / 8))), (3, .int (nI j)), (0, .ref w0), (1, .int num), (2, .int len)]) hx hb dX1_put_15 hl (by decide) rfl (fun ls hl => ?_)
        refine lv_iload hx hb dX1_put_17 (lv_at hl 0 rfl) ?_
        refine lv_aload_n hx hb dX1_put_19 rfl (lv_at hl 2 rfl) ?_
        refine va_get (D := (dC, dI)) (ci := 1) (v := .ref wR) (C := RX1) (T := TX1) (N := 4) hx hb hts hinX1 hown hK hP 0 rfl rfl 0 (by decide) (hts (.fieldLink RX1 11 "GreyReel$PacketWriter" "row" "[I") (List.mem_of_getElem? (i := 2) (by decide +kernel))) (fun _ h9 => h9) rfl dX1_put_20 ?_
        refine va_alen (D := (dC, dI)) (v := nI 2487) hx hb hK hP 1 0 rfl rfl rfl dX1_put_23 ?_
        refine lv_icmp_ge (tgt := 53) hx hb dX1_put_24 (by decide) (fun c24 => ?_) (fun c24 => ?_)
        · skip
          have c24 : 2487 ≤ (n / 8) := (nI_leI (a := 2487) (b := (n / 8)) (by omega) (by omega)).mp c24
          refine lv_aload_n hx hb dX1_put_53 rfl (lv_at hl 2 rfl) ?_
          refine lv_dup hx hb dX1_put_54 rfl ?_
          refine va_get (D := (dC, dI)) (ci := 1) (v := .int (nI n)) (C := RX1) (T := TX1) (N := 4) hx hb hts hinX1 hown hK hP 0 rfl rfl 3 (by decide) (hts (.fieldLink RX1 21 "GreyReel$PacketWriter" "bitsWritten" "I") (List.mem_of_getElem? (i := 1) (by decide +kernel))) (fun _ h9 => h9) rfl dX1_put_55 ?_
          refine lv_iconst (v := 1) hx hb dX1_put_58 (by decide) ?_
          refine lv_iadd hx hb dX1_put_59 ?_
          refine lv_topr (show _ = nI (n + 1) from nI_add n 1) ?_
          refine wa_put (D := (dC, dI)) (ci := 1) (v := .int (nI (n + 1))) (ty := .int) (C := RX1) (T := TX1) (N := 4) hx hb hts hinX1 tyX1 tyX1_ok nmX1 hown hK hP (hN.D rfl) hS (List.mem_of_getElem? (i := 0) rfl) 0 rfl rfl 3 (by decide) (hts (.fieldLink RX1 21 "GreyReel$PacketWriter" "bitsWritten" "I") (List.mem_of_getElem? (i := 1) (by decide +kernel))) (fun _ h9 => h9) rfl (by decide +kernel) rfl rfl (Nat.le_of_ble_eq_true rfl) dX1_put_60 (fun H locs hP hS => ?_)
          have hP : va_P (dC, dI) vwCl [(w0, .inr (1, [.ref wR, .ref wK, .ref wM, .int (nI (n + 1))])), (wR, .inl (cI, 2487, .inl f1)), (wK, .inl (cI, 5, .inl S.2.1)), (wM, .inl (cI, 3, .inl S.2.2.1))] H := hP
          obtain ⟨x_2, ex_2⟩ : ∃ y : Int32, y = (nI j) + (-1) := ⟨_, rfl⟩
          refine lv_iinc (v := x_2) (lv' := [(3, .int x_2), (4, .int (nI (n / 8))), (0, .ref w0), (1, .int num), (2, .int len)]) hx hb dX1_put_63 hl (k := 1) rfl (by rw [ex_2]; rfl) (by decide) rfl (fun ls hl => ?_)
          refine lv_goto (tgt := 4) hx hb dX1_put_66 (by decide) ?_
          exact ih4 j (n + 1) x_2 f1 (put_1 hg (by rw [put1, if_neg (by omega)])) (by omega) (by omega) (put_next ex_2 (by omega)) (by omega) _ _ _ hP hS (lv_sub hl [0, 2, 3, 4] rfl)
        · skip
          have c24 : ¬ 2487 ≤ (n / 8) := fun z => c24 ((nI_leI (a := 2487) (b := (n / 8)) (by omega) (by omega)).mpr z)
          refine lv_aload_n hx hb dX1_put_27 rfl (lv_at hl 2 rfl) ?_
          refine va_get (D := (dC, dI)) (ci := 1) (v := .ref wR) (C := RX1) (T := TX1) (N := 4) hx hb hts hinX1 hown hK hP 0 rfl rfl 0 (by decide) (hts (.fieldLink RX1 11 "GreyReel$PacketWriter" "row" "[I") (List.mem_of_getElem? (i := 2) (by decide +kernel))) (fun _ h9 => h9) rfl dX1_put_28 ?_
          refine lv_iload hx hb dX1_put_31 (lv_at hl 0 rfl) ?_
          refine lv_dup2_11 hx hb dX1_put_33 rfl rfl ?_
          refine wa_iald (D := (dC, dI)) (i := (n / 8)) (f := f1) hx hb hK hP 1 0 rfl rfl (by omega) (by omega) dX1_put_34 ?_
          refine lv_iload_n hx hb dX1_put_35 rfl (lv_at hl 3 rfl) ?_
          refine lv_iload_n hx hb dX1_put_36 rfl (lv_at hl 1 rfl) ?_
          refine lv_ishr hx hb dX1_put_37 ?_
          refine lv_iconst (v := 1) hx hb dX1_put_38 (by decide) ?_
          refine lv_iand hx hb dX1_put_39 ?_
          refine lv_bipush (v := 7) hx hb dX1_put_40 (by decide +kernel) ?_
          refine lv_aload_n hx hb dX1_put_42 rfl (lv_at hl 2 rfl) ?_
          refine va_get (D := (dC, dI)) (ci := 1) (v := .int (nI n)) (C := RX1) (T := TX1) (N := 4) hx hb hts hinX1 hown hK hP 0 rfl rfl 3 (by decide) (hts (.fieldLink RX1 21 "GreyReel$PacketWriter" "bitsWritten" "I") (List.mem_of_getElem? (i := 1) (by decide +kernel))) (fun _ h9 => h9) rfl dX1_put_43 ?_
          refine lv_bipush (v := 8) hx hb dX1_put_46 (by decide +kernel) ?_
          refine lv_irem hx hb dX1_put_48 (by decide) ?_
          refine lv_topr (show _ = nI (n % 8) from pk_rem (a := n) (d := 8) (by omega) (by omega) (by omega)) ?_
          refine lv_isub hx hb dX1_put_49 ?_
          refine lv_topr (show _ = nI (7 - (n % 8)) from pk_sub (a := 7) (b := (n % 8)) (by omega)) ?_
          refine lv_ishl hx hb dX1_put_50 ?_
          refine lv_ior hx hb dX1_put_51 ?_
          refine lv_topi (fun x_3 ex_3 => ?_)
          refine wa_iast (D := (dC, dI)) (i := (n / 8)) (f := f1) hx hb hK hP (hN.D rfl) hS (List.mem_of_getElem? (i := 1) rfl) 1 0 rfl rfl (by omega) (by omega) dX1_put_52 (fun H locs hP hS => ?_)
          obtain ⟨f_4, ef_4⟩ : ∃ z, z = upd f1 (n / 8) x_3 := ⟨_, rfl⟩
          rw [← ef_4] at hP
          have hP : va_P (dC, dI) vwCl [(w0, .inr (1, [.ref wR, .ref wK, .ref wM, .int (nI n)])), (wR, .inl (cI, 2487, .inl f_4)), (wK, .inl (cI, 5, .inl S.2.1)), (wM, .inl (cI, 3, .inl S.2.2.1))] H := hP
          refine lv_aload_n hx hb dX1_put_53 rfl (lv_at hl 2 rfl) ?_
          refine lv_dup hx hb dX1_put_54 rfl ?_
          refine va_get (D := (dC, dI)) (ci := 1) (v := .int (nI n)) (C := RX1) (T := TX1) (N := 4) hx hb hts hinX1 hown hK hP 0 rfl rfl 3 (by decide) (hts (.fieldLink RX1 21 "GreyReel$PacketWriter" "bitsWritten" "I") (List.mem_of_getElem? (i := 1) (by decide +kernel))) (fun _ h9 => h9) rfl dX1_put_55 ?_
          refine lv_iconst (v := 1) hx hb dX1_put_58 (by decide) ?_
          refine lv_iadd hx hb dX1_put_59 ?_
          refine lv_topr (show _ = nI (n + 1) from nI_add n 1) ?_
          refine wa_put (D := (dC, dI)) (ci := 1) (v := .int (nI (n + 1))) (ty := .int) (C := RX1) (T := TX1) (N := 4) hx hb hts hinX1 tyX1 tyX1_ok nmX1 hown hK hP (hN.D rfl) hS (List.mem_of_getElem? (i := 0) rfl) 0 rfl rfl 3 (by decide) (hts (.fieldLink RX1 21 "GreyReel$PacketWriter" "bitsWritten" "I") (List.mem_of_getElem? (i := 1) (by decide +kernel))) (fun _ h9 => h9) rfl (by decide +kernel) rfl rfl (Nat.le_of_ble_eq_true rfl) dX1_put_60 (fun H locs hP hS => ?_)
          have hP : va_P (dC, dI) vwCl [(w0, .inr (1, [.ref wR, .ref wK, .ref wM, .int (nI (n + 1))])), (wR, .inl (cI, 2487, .inl f_4)), (wK, .inl (cI, 5, .inl S.2.1)), (wM, .inl (cI, 3, .inl S.2.2.1))] H := hP
          obtain ⟨x_5, ex_5⟩ : ∃ y : Int32, y = (nI j) + (-1) := ⟨_, rfl⟩
          refine lv_iinc (v := x_5) (lv' := [(3, .int x_5), (4, .int (nI (n / 8))), (0, .ref w0), (1, .int num), (2, .int len)]) hx hb dX1_put_63 hl (k := 1) rfl (by rw [ex_5]; rfl) (by decide) rfl (fun ls hl => ?_)
          refine lv_goto (tgt := 4) hx hb dX1_put_66 (by decide) ?_
          exact ih4 j (n + 1) x_5 f_4 (put_1 hg (by rw [ef_4, ex_3, put1, if_pos (by omega)])) (by omega) (by omega) (put_next ex_5 (by omega)) (by omega) _ _ _ hP hS (lv_sub hl [0, 2, 3, 4] rfl)
  exact L4 (len.toNatClampNeg + 1) len.toNatClampNeg S.2.2.2 x_1 S.1 rfl rfl hlc (put_init ex_1 h1) (Nat.lt_succ_self _) _ _ _ hP hS (lv_sub hl [0, 1, 2, 3] rfl)
set_option maxHeartbeats 4000000 in
set_option maxRecDepth 100000 in
theorem C_X1_putOnes (l : Launch) (dC : Nat → ClassId) (dI : Nat → Nat → Nat) (cI cZ cP : ClassId) (N0 tO : Nat) (w0 wR wK wM : Nat) (S : WST) (cnt : Int32) (hnb : S.2.2.2 < 2000000) (h1 : -2147483648 < (cnt + 1).toInt) (h2 : (cnt + 1).toInt ≤ 31) : Met l yX1_putOnes wsX1_putOnes ({ frames := 1, cells := 0, slots := 0, locals := 24 } : Room) (Gv (dC, dI) cI cZ cP N0 tO [.ref w0, .int cnt] (fun H => va_P (dC, dI) vwCl [(w0, .inr (1, [.ref wR, .ref wK, .ref wM, .int (nI S.2.2.2)])), (wR, .inl (cI, 2487, .inl S.1)), (wK, .inl (cI, 5, .inl S.2.1)), (wM, .inl (cI, 3, .inl S.2.2.1))] H ∧ AD N0 [w0, wR, wK, wM])) (va_Qv (fun (S1 : WST) => S1 = poF cnt S) (fun (S1 : WST) (t : State) => va_P (dC, dI) vwCl [(w0, .inr (1, [.ref wR, .ref wK, .ref wM, .int (nI S1.2.2.2)])), (wR, .inl (cI, 2487, .inl S1.1)), (wK, .inl (cI, 5, .inl S1.2.1)), (wM, .inl (cI, 3, .inl S1.2.2.1))] t.heap) (inL [w0, wR, wK, wM])) 0 0 (inL [w0, wR, wK, wM]) := by
  refine Met.ofW (cc := cX1_putOnes) (maxL := 2) (ret := none) (by decide) rfl ?_
  intro p e s m args below meth c s₁ B hml hv
  obtain ⟨rfl, hE, hP, hN⟩ := hv
  have hx := B.exec
  have hb := B.bytes
  have hr := B.returns
  have hts := atoms_spec (ws := wsX1_putOnes) B.pre
  have hown : s.vm.findClass RX1 = some m.cls := findClass_of_methodNamed B.named
  have hlocks := B.notSynchronized
  have hK := hE.1
  have hNS := hE.2.1
  have hS : va_S (inL [w0, wR, wK, wM]) s.heap s.heap [] := va_S.rf
  have hAN : ∀ q : Nat, (inL [w0, wR, wK, wM]) q → N0 ≤ q := fun q h => hN.in [0, 1, 2, 3] rfl q h
  have hP : va_P (dC, dI) vwCl [(w0, .inr (1, [.ref wR, .ref wK, .ref wM, .int (nI S.2.2.2)])), (wR, .inl (cI, 2487, .inl S.1)), (wK, .inl (cI, 5, .inl S.2.1)), (wM, .inl (cI, 3, .inl S.2.2.1))] s.heap := hP
  have hl := lv_entry ([.ref w0, .int cnt]) (n := 2) (Nat.le_of_ble_eq_true rfl)
  rw [lg_entry_eq]
  generalize (lg_sl ([.ref w0, .int cnt]) ++ List.replicate (2 - (lg_sl ([.ref w0, .int cnt])).length) Slot.unset).toArray = ls at hl ⊢
  have hl : lv_has ls 2 [(0, .ref w0), (1, .int cnt)] := hl
  refine lv_aload_n hx hb dX1_putOnes_0 rfl (lv_at hl 0 rfl) ?_
  refine lv_iconst (v := 2) hx hb dX1_putOnes_1 (by decide) ?_
  refine lv_iload_n hx hb dX1_putOnes_2 rfl (lv_at hl 1 rfl) ?_
  refine lv_ishl hx hb dX1_putOnes_3 ?_
  refine lv_iconst (v := 2) hx hb dX1_putOnes_4 (by decide) ?_
  refine lv_isub hx hb dX1_putOnes_5 ?_
  refine lv_iload_n hx hb dX1_putOnes_6 rfl (lv_at hl 1 rfl) ?_
  refine lv_iconst (v := 1) hx hb dX1_putOnes_7 (by decide) ?_
  refine lv_iadd hx hb dX1_putOnes_8 ?_
  refine va_callv (va_runV (As := [.int ((2 <<< (cnt &&& 31)) - 2), .int (cnt + 1)]) (rest := []) ⟨hx, hb, hml, hown, hts⟩ (C_X1_put l dC dI cI cZ cP N0 tO w0 wR wK wM S ((2 <<< (cnt &&& 31)) - 2) (cnt + 1) hnb h1 h2) (cwV 2 hts gX1_putOnes_X1_put rfl rfl rfl (by decide +kernel) ⟨Nat.le_of_ble_eq_true rfl, Nat.le_of_ble_eq_true rfl⟩) ⟨Gv.blind, va_recv hK hP (ci := 1) (q0 := 0) rfl rfl, Gv.of (hE.S hS hAN) ⟨(hP.sub [0, 1, 2, 3] rfl), hN.sub [0, 1, 2, 3] (by decide) rfl⟩⟩ rfl rfl hl.1 rfl (lv_room (Nat.le_of_ble_eq_true rfl)) dX1_putOnes_9 ⟨Nat.le_of_ble_eq_true rfl, Nat.le_of_ble_eq_true rfl⟩) hS (fun q _ h => inL_sub [0, 1, 2, 3] rfl q h) (inL_sub [0, 1, 2, 3] rfl) (fun u t H locs ht hvm hw hB hz1 hk1 hS => ?_)
  obtain ⟨S1_2, eu⟩ : ∃ z, z = u := ⟨_, rfl⟩
  subst eu
  rw [ht] at hB
  have hP := va_back (L := [w0, wR, wK, wM]) hP hN rfl [0, 1, 2, 3] rfl rfl (fun q h1 h2 => hk1 q h1 h2) hB
  clear hB hk1 hz1 hvm ht t
  have hP : va_P (dC, dI) vwCl [(w0, .inr (1, [.ref wR, .ref wK, .ref wM, .int (nI S1_2.2.2.2)])), (wR, .inl (cI, 2487, .inl S1_2.1)), (wK, .inl (cI, 5, .inl S1_2.2.1)), (wM, .inl (cI, 3, .inl S1_2.2.2.1))] H := hP
  have hw : S1_2 = wpF ((2 <<< (cnt &&& 31)) - 2) (cnt + 1) S := hw
  have hwr_1 := hw
  have hwr_1 : S1_2 = wpF ((2 <<< (cnt &&& 31)) - 2) (cnt + 1) S := hwr_1
  exact W.vret hx hb hr (fun t ht hW => ⟨⟨S1_2, rfl, (by rw [hwr_1] <;> rfl), by show va_P _ _ _ t.heap; rw [ht]; exact hP.sub [0, 1, 2, 3] rfl⟩, hS.F ht⟩) hS.2.2 dX1_putOnes_12
set_option maxHeartbeats 4000000 in
set_option maxRecDepth 100000 in
theorem C_X1_writeNumber (l : Launch) (dC : Nat → ClassId) (dI : Nat → Nat → Nat) (cI cZ cP : ClassId) (N0 tO : Nat) (w0 wR wK wM : Nat) (S : WST) (num : Int32) (ctx : Nat) (hnb : S.2.2.2 < 1000000) (h1 : ctx < 3) : Met l yX1_writeNumber wsX1_writeNumber ({ frames := 2, cells := 0, slots := 0, locals := 45 } : Room) (Gv (dC, dI) cI cZ cP N0 tO [.ref w0, .int num, .int (nI ctx)] (fun H => va_P (dC, dI) vwCl [(w0, .inr (1, [.ref wR, .ref wK, .ref wM, .int (nI S.2.2.2)])), (wR, .inl (cI, 2487, .inl S.1)), (wK, .inl (cI, 5, .inl S.2.1)), (wM, .inl (cI, 3, .inl S.2.2.1))] H ∧ AD N0 [w0, wR, wK, wM])) (va_Qv (fun (S1 : WST) => S1 = wnF num ctx S) (fun (S1 : WST) (t : State) => va_P (dC, dI) vwCl [(w0, .inr (1, [.ref wR, .ref wK, .ref wM, .int (nI S1.2.2.2)])), (wR, .inl (cI, 2487, .inl S1.1)), (wK, .inl (cI, 5, .inl S1.2.1)), (wM, .inl (cI, 3, .inl S1.2.2.1))] t.heap) (inL [w0, wR, wK, wM])) 0 0 (inL [w0, wR, wK, wM]) := by
  refine Met.ofW (cc := cX1_writeNumber) (maxL := 4) (ret := none) (by decide) rfl ?_
  intro p e s m args below meth c s₁ B hml hv
  obtain ⟨rfl, hE, hP, hN⟩ := hv
  have hx := B.exec
  have hb := B.bytes
  have hr := B.returns
  have hts := atoms_spec (ws := wsX1_writeNumber) B.pre
  have hown : s.vm.findClass RX1 = some m.cls := findClass_of_methodNamed B.named
  have hlocks := B.notSynchronized
  have hK := hE.1
  have hNS := hE.2.1
  have hS : va_S (inL [w0, wR, wK, wM]) s.heap s.heap [] := va_S.rf
  have hAN : ∀ q : Nat, (inL [w0, wR, wK, wM]) q → N0 ≤ q := fun q h => hN.in [0, 1, 2, 3] rfl q h
  have hP : va_P (dC, dI) vwCl [(w0, .inr (1, [.ref wR, .ref wK, .ref wM, .int (nI S.2.2.2)])), (wR, .inl (cI, 2487, .inl S.1)), (wK, .inl (cI, 5, .inl S.2.1)), (wM, .inl (cI, 3, .inl S.2.2.1))] s.heap := hP
  have hinX1 : ∀ w ∈ wsX10, w ∈ wsX1_writeNumber := by decide +kernel
  have hl := lv_entry ([.ref w0, .int num, .int (nI ctx)]) (n := 4) (Nat.le_of_ble_eq_true rfl)
  rw [lg_entry_eq]
  generalize (lg_sl ([.ref w0, .int num, .int (nI ctx)]) ++ List.replicate (4 - (lg_sl ([.ref w0, .int num, .int (nI ctx)])).length) Slot.unset).toArray = ls at hl ⊢
  have hl : lv_has ls 4 [(0, .ref w0), (1, .int num), (2, .int (nI ctx))] := hl
  refine lv_iconst (v := 0) hx hb dX1_writeNumber_0 (by decide) ?_
  refine lv_istore_n (lv' := [(3, .int 0), (0, .ref w0), (1, .int num), (2, .int (nI ctx))]) hx hb dX1_writeNumber_1 rfl hl (by decide) rfl (fun ls hl => ?_)
  have L2 : ∀ (n2 : Nat) (k : Nat), (kS (S.2.2.1 ctx) k = k) → (k ≤ 12) → 12 - k < n2 → ∀ (H : Heap) (locs : List Loc) (ls : Array Slot), va_P (dC, dI) vwCl [(w0, .inr (1, [.ref wR, .ref wK, .ref wM, .int (nI S.2.2.2)])), (wR, .inl (cI, 2487, .inl S.1)), (wK, .inl (cI, 5, .inl S.2.1)), (wM, .inl (cI, 3, .inl S.2.2.1))] H → va_S (inL [w0, wR, wK, wM]) s.heap H locs → lv_has ls 4 [(3, .int (nI k)), (0, .ref w0), (1, .int num), (2, .int (nI ctx))] → W p l e (headSpec wsX1_writeNumber ({ frames := 2, cells := 0, slots := 0, locals := 45 } : Room)).room s m ([.ref w0, .int num, .int (nI ctx)] : List Value).toArray below meth c H locs 0 0 (MQ below (va_Qv (fun (S1 : WST) => S1 = wnF num ctx S) (fun (S1 : WST) (t : State) => va_P (dC, dI) vwCl [(w0, .inr (1, [.ref wR, .ref wK, .ref wM, .int (nI S1.2.2.2)])), (wR, .inl (cI, 2487, .inl S1.1)), (wK, .inl (cI, 5, .inl S1.2.1)), (wM, .inl (cI, 3, .inl S1.2.2.1))] t.heap) (inL [w0, wR, wK, wM])) ([.ref w0, .int num, .int (nI ctx)] : List Value).toArray s 0 0 (inL [w0, wR, wK, wM])) (F0 m 2 ls []) := by
    intro n2
    induction n2 with
    | zero => intro k hk hk2 hz; exact absurd hz (Nat.not_lt_zero _)
    | succ n2 ih2 =>
      intro k hk hk2 hfu H locs ls hP hS hl
      refine lv_iload_n hx hb dX1_writeNumber_2 rfl (lv_at hl 0 rfl) ?_
      refine lv_bipush (v := 12) hx hb dX1_writeNumber_3 (by decide +kernel) ?_
      refine lv_icmp_ge (tgt := 26) hx hb dX1_writeNumber_5 (by decide) (fun c5 => ?_) (fun c5 => ?_)
      · skip
        have c5 : 12 ≤ k := (nI_leI (a := 12) (b := k) (by omega) (by omega)).mp c5
        have hk12 := kS_end hk (by omega) hk2
        refine lv_iload_n hx hb dX1_writeNumber_26 rfl (lv_at hl 2 rfl) ?_
        refine lv_iload_n hx hb dX1_writeNumber_27 rfl (lv_at hl 0 rfl) ?_
        refine lv_ishr hx hb dX1_writeNumber_28 ?_
        refine lv_bipush (v := 12) hx hb dX1_writeNumber_29 (by decide +kernel) ?_
        refine lv_icmp_lt (tgt := 53) hx hb dX1_writeNumber_31 (by decide) (fun c31 => ?_) (fun c31 => ?_)
        · skip
          have hpo := fun T => poF_n c31 T
          refine lv_aload_n hx hb dX1_writeNumber_53 rfl (lv_at hl 1 rfl) ?_
          refine lv_iload_n hx hb dX1_writeNumber_54 rfl (lv_at hl 2 rfl) ?_
          refine lv_iload_n hx hb dX1_writeNumber_55 rfl (lv_at hl 0 rfl) ?_
          refine lv_ishr hx hb dX1_writeNumber_56 ?_
          refine va_callv (va_runV (As := [.int (num >>> ((nI k) &&& 31))]) (rest := []) ⟨hx, hb, hml, hown, hts⟩ (C_X1_putOnes l dC dI cI cZ cP N0 tO w0 wR wK wM S (num >>> ((nI k) &&& 31)) (by omega) (hpo S).2.1 (by have := (hpo S).2.2; omega)) (cwV 1 hts gX1_writeNumber_X1_putOnes rfl rfl rfl (by decide +kernel) ⟨Nat.le_of_ble_eq_true rfl, Nat.le_of_ble_eq_true rfl⟩) ⟨Gv.blind, va_recv hK hP (ci := 1) (q0 := 0) rfl rfl, Gv.of (hE.S hS hAN) ⟨(hP.sub [0, 1, 2, 3] rfl), hN.sub [0, 1, 2, 3] (by decide) rfl⟩⟩ rfl rfl hl.1 rfl (lv_room (Nat.le_of_ble_eq_true rfl)) dX1_writeNumber_57 ⟨Nat.le_of_ble_eq_true rfl, Nat.le_of_ble_eq_true rfl⟩) hS (fun q _ h => inL_sub [0, 1, 2, 3] rfl q h) (inL_sub [0, 1, 2, 3] rfl) (fun u t H locs ht hvm hw hB hz1 hk1 hS => ?_)
          obtain ⟨S1_2, eu⟩ : ∃ z, z = u := ⟨_, rfl⟩
          subst eu
          rw [ht] at hB
          have hP := va_back (L := [w0, wR, wK, wM]) hP hN rfl [0, 1, 2, 3] rfl rfl (fun q h1 h2 => hk1 q h1 h2) hB
          clear hB hk1 hz1 hvm ht t
          have hP : va_P (dC, dI) vwCl [(w0, .inr (1, [.ref wR, .ref wK, .ref wM, .int (nI S1_2.2.2.2)])), (wR, .inl (cI, 2487, .inl S1_2.1)), (wK, .inl (cI, 5, .inl S1_2.2.1)), (wM, .inl (cI, 3, .inl S1_2.2.2.1))] H := hP
          have hw : S1_2 = poF (num >>> ((nI k) &&& 31)) S := hw
          have hwr_1 := hw
          have hwr_1 : S1_2 = poF (num >>> ((nI k) &&& 31)) S := hwr_1
          have hb3 : S1_2.2.2.2 ≤ S.2.2.2 + 12 := by rw [hwr_1]; exact (hpo S).1
          refine lv_aload_n hx hb dX1_writeNumber_60 rfl (lv_at hl 1 rfl) ?_
          refine lv_iload_n hx hb dX1_writeNumber_61 rfl (lv_at hl 2 rfl) ?_
          refine lv_iconst (v := 1) hx hb dX1_writeNumber_62 (by decide) ?_
          refine lv_iload_n hx hb dX1_writeNumber_63 rfl (lv_at hl 0 rfl) ?_
          refine lv_ishl hx hb dX1_writeNumber_64 ?_
          refine lv_iconst (v := 1) hx hb dX1_writeNumber_65 (by decide) ?_
          refine lv_isub hx hb dX1_writeNumber_66 ?_
          refine lv_iand hx hb dX1_writeNumber_67 ?_
          refine lv_iload_n hx hb dX1_writeNumber_68 rfl (lv_at hl 0 rfl) ?_
          refine va_callv (va_runV (As := [.int (num &&& ((1 <<< ((nI k) &&& 31)) - 1)), .int (nI k)]) (rest := []) ⟨hx, hb, hml, hown, hts⟩ (C_X1_put l dC dI cI cZ cP N0 tO w0 wR wK wM S1_2 (num &&& ((1 <<< ((nI k) &&& 31)) - 1)) (nI k) (by omega) (by rw [nI_toInt (by omega)]; omega) (by rw [nI_toInt (by omega)]; omega)) (cwV 2 hts gX1_writeNumber_X1_put rfl rfl rfl (by decide +kernel) ⟨Nat.le_of_ble_eq_true rfl, Nat.le_of_ble_eq_true rfl⟩) ⟨Gv.blind, va_recv hK hP (ci := 1) (q0 := 0) rfl rfl, Gv.of (hE.S hS hAN) ⟨(hP.sub [0, 1, 2, 3] rfl), hN.sub [0, 1, 2, 3] (by decide) rfl⟩⟩ rfl rfl hl.1 rfl (lv_room (Nat.le_of_ble_eq_true rfl)) dX1_writeNumber_69 ⟨Nat.le_of_ble_eq_true rfl, Nat.le_of_ble_eq_true rfl⟩) hS (fun q _ h => inL_sub [0, 1, 2, 3] rfl q h) (inL_sub [0, 1, 2, 3] rfl) (fun u t H locs ht hvm hw hB hz1 hk1 hS => ?_)
          obtain ⟨S1_4, eu⟩ : ∃ z, z = u := ⟨_, rfl⟩
          subst eu
          rw [ht] at hB
          have hP := va_back (L := [w0, wR, wK, wM]) hP hN rfl [0, 1, 2, 3] rfl rfl (fun q h1 h2 => hk1 q h1 h2) hB
          clear hB hk1 hz1 hvm ht t
          have hP : va_P (dC, dI) vwCl [(w0, .inr (1, [.ref wR, .ref wK, .ref wM, .int (nI S1_4.2.2.2)])), (wR, .inl (cI, 2487, .inl S1_4.1)), (wK, .inl (cI, 5, .inl S1_4.2.1)), (wM, .inl (cI, 3, .inl S1_4.2.2.1))] H := hP
          have hw : S1_4 = wpF (num &&& ((1 <<< ((nI k) &&& 31)) - 1)) (nI k) S1_2 := hw
          have hwr_3 := hw
          have hwr_3 : S1_4 = wpF (num &&& ((1 <<< ((nI k) &&& 31)) - 1)) (nI k) S1_2 := hwr_3
          refine lv_aload_n hx hb dX1_writeNumber_72 rfl (lv_at hl 1 rfl) ?_
          refine va_get (D := (dC, dI)) (ci := 1) (v := .ref wM) (C := RX1) (T := TX1) (N := 4) hx hb hts hinX1 hown hK hP 0 rfl rfl 2 (by decide) (hts (.fieldLink RX1 18 "GreyReel$PacketWriter" "mean" "[I") (List.mem_of_getElem? (i := 1) (by decide +kernel))) (fun _ h9 => h9) rfl dX1_writeNumber_73 ?_
          refine lv_iload_n hx hb dX1_writeNumber_76 rfl (lv_at hl 3 rfl) ?_
          refine lv_dup2_11 hx hb dX1_writeNumber_77 rfl rfl ?_
          refine wa_iald (D := (dC, dI)) (i := ctx) (f := S1_4.2.2.1) hx hb hK hP 3 0 rfl rfl (by omega) (by omega) dX1_writeNumber_78 ?_
          refine lv_iload_n hx hb dX1_writeNumber_79 rfl (lv_at hl 2 rfl) ?_
          refine lv_aload_n hx hb dX1_writeNumber_80 rfl (lv_at hl 1 rfl) ?_
          refine va_get (D := (dC, dI)) (ci := 1) (v := .ref wM) (C := RX1) (T := TX1) (N := 4) hx hb hts hinX1 hown hK hP 0 rfl rfl 2 (by decide) (hts (.fieldLink RX1 18 "GreyReel$PacketWriter" "mean" "[I") (List.mem_of_getElem? (i := 1) (by decide +kernel))) (fun _ h9 => h9) rfl dX1_writeNumber_81 ?_
          refine lv_iload_n hx hb dX1_writeNumber_84 rfl (lv_at hl 3 rfl) ?_
          refine wa_iald (D := (dC, dI)) (i := ctx) (f := S1_4.2.2.1) hx hb hK hP 3 0 rfl rfl (by omega) (by omega) dX1_writeNumber_85 ?_
          refine lv_iconst (v := 4) hx hb dX1_writeNumber_86 (by decide) ?_
          refine lv_idiv hx hb dX1_writeNumber_87 (by decide) ?_
          refine lv_isub hx hb dX1_writeNumber_88 ?_
          refine lv_iadd hx hb dX1_writeNumber_89 ?_
          refine lv_topi (fun x_5 ex_5 => ?_)
          refine wa_iast (D := (dC, dI)) (i := ctx) (f := S1_4.2.2.1) hx hb hK hP (hN.D rfl) hS (List.mem_of_getElem? (i := 3) rfl) 3 0 rfl rfl (by omega) (by omega) dX1_writeNumber_90 (fun H locs hP hS => ?_)
          obtain ⟨f_6, ef_6⟩ : ∃ z, z = upd S1_4.2.2.1 ctx x_5 := ⟨_, rfl⟩
          rw [← ef_6] at hP
          have hP : va_P (dC, dI) vwCl [(w0, .inr (1, [.ref wR, .ref wK, .ref wM, .int (nI S1_4.2.2.2)])), (wR, .inl (cI, 2487, .inl S1_4.1)), (wK, .inl (cI, 5, .inl S1_4.2.1)), (wM, .inl (cI, 3, .inl f_6))] H := hP
          exact W.vret hx hb hr (fun t ht hW => ⟨⟨(S1_4.1, S1_4.2.1, f_6, S1_4.2.2.2), rfl, (by unfold wnF kF; subst ef_6 ex_5 hwr_3 hwr_1; simp only [hk12]; rw [if_pos c31] <;> rfl), by show va_P _ _ _ t.heap; rw [ht]; exact hP.sub [0, 1, 2, 3] rfl⟩, hS.F ht⟩) hS.2.2 dX1_writeNumber_91
        · skip
          refine lv_aload_n hx hb dX1_writeNumber_34 rfl (lv_at hl 1 rfl) ?_
          refine lv_sipush (v := 4095) hx hb dX1_writeNumber_35 (by decide +kernel) ?_
          refine lv_bipush (v := 12) hx hb dX1_writeNumber_38 (by decide +kernel) ?_
          refine va_callv (va_runV (As := [.int 4095, .int 12]) (rest := []) ⟨hx, hb, hml, hown, hts⟩ (C_X1_put l dC dI cI cZ cP N0 tO w0 wR wK wM S 4095 12 (by omega) (by decide) (by decide)) (cwV 2 hts gX1_writeNumber_X1_put rfl rfl rfl (by decide +kernel) ⟨Nat.le_of_ble_eq_true rfl, Nat.le_of_ble_eq_true rfl⟩) ⟨Gv.blind, va_recv hK hP (ci := 1) (q0 := 0) rfl rfl, Gv.of (hE.S hS hAN) ⟨(hP.sub [0, 1, 2, 3] rfl), hN.sub [0, 1, 2, 3] (by decide) rfl⟩⟩ rfl rfl hl.1 rfl (lv_room (Nat.le_of_ble_eq_true rfl)) dX1_writeNumber_40 ⟨Nat.le_of_ble_eq_true rfl, Nat.le_of_ble_eq_true rfl⟩) hS (fun q _ h => inL_sub [0, 1, 2, 3] rfl q h) (inL_sub [0, 1, 2, 3] rfl) (fun u t H locs ht hvm hw hB hz1 hk1 hS => ?_)
          obtain ⟨S1_8, eu⟩ : ∃ z, z = u := ⟨_, rfl⟩
          subst eu
          rw [ht] at hB
          have hP := va_back (L := [w0, wR, wK, wM]) hP hN rfl [0, 1, 2, 3] rfl rfl (fun q h1 h2 => hk1 q h1 h2) hB
          clear hB hk1 hz1 hvm ht t
          have hP : va_P (dC, dI) vwCl [(w0, .inr (1, [.ref wR, .ref wK, .ref wM, .int (nI S1_8.2.2.2)])), (wR, .inl (cI, 2487, .inl S1_8.1)), (wK, .inl (cI, 5, .inl S1_8.2.1)), (wM, .inl (cI, 3, .inl S1_8.2.2.1))] H := hP
          have hw : S1_8 = wpF 4095 12 S := hw
          have hwr_7 := hw
          have hwr_7 : S1_8 = wpF 4095 12 S := hwr_7
          have hb2 : S1_8.2.2.2 < 1000012 := by rw [hwr_7]; show S.2.2.2 + 12 < _; omega
          refine lv_aload_n hx hb dX1_writeNumber_43 rfl (lv_at hl 1 rfl) ?_
          refine lv_iload_n hx hb dX1_writeNumber_44 rfl (lv_at hl 2 rfl) ?_
          refine lv_bipush (v := 12) hx hb dX1_writeNumber_45 (by decide +kernel) ?_
          refine va_callv (va_runV (As := [.int num, .int 12]) (rest := []) ⟨hx, hb, hml, hown, hts⟩ (C_X1_put l dC dI cI cZ cP N0 tO w0 wR wK wM S1_8 num 12 (by omega) (by decide) (by decide)) (cwV 2 hts gX1_writeNumber_X1_put rfl rfl rfl (by decide +kernel) ⟨Nat.le_of_ble_eq_true rfl, Nat.le_of_ble_eq_true rfl⟩) ⟨Gv.blind, va_recv hK hP (ci := 1) (q0 := 0) rfl rfl, Gv.of (hE.S hS hAN) ⟨(hP.sub [0, 1, 2, 3] rfl), hN.sub [0, 1, 2, 3] (by decide) rfl⟩⟩ rfl rfl hl.1 rfl (lv_room (Nat.le_of_ble_eq_true rfl)) dX1_writeNumber_47 ⟨Nat.le_of_ble_eq_true rfl, Nat.le_of_ble_eq_true rfl⟩) hS (fun q _ h => inL_sub [0, 1, 2, 3] rfl q h) (inL_sub [0, 1, 2, 3] rfl) (fun u t H locs ht hvm hw hB hz1 hk1 hS => ?_)
          obtain ⟨S1_10, eu⟩ : ∃ z, z = u := ⟨_, rfl⟩
          subst eu
          rw [ht] at hB
          have hP := va_back (L := [w0, wR, wK, wM]) hP hN rfl [0, 1, 2, 3] rfl rfl (fun q h1 h2 => hk1 q h1 h2) hB
          clear hB hk1 hz1 hvm ht t
          have hP : va_P (dC, dI) vwCl [(w0, .inr (1, [.ref wR, .ref wK, .ref wM, .int (nI S1_10.2.2.2)])), (wR, .inl (cI, 2487, .inl S1_10.1)), (wK, .inl (cI, 5, .inl S1_10.2.1)), (wM, .inl (cI, 3, .inl S1_10.2.2.1))] H := hP
          have hw : S1_10 = wpF num 12 S1_8 := hw
          have hwr_9 := hw
          have hwr_9 : S1_10 = wpF num 12 S1_8 := hwr_9
          refine lv_goto (tgt := 72) hx hb dX1_writeNumber_50 (by decide) ?_
          refine lv_aload_n hx hb dX1_writeNumber_72 rfl (lv_at hl 1 rfl) ?_
          refine va_get (D := (dC, dI)) (ci := 1) (v := .ref wM) (C := RX1) (T := TX1) (N := 4) hx hb hts hinX1 hown hK hP 0 rfl rfl 2 (by decide) (hts (.fieldLink RX1 18 "GreyReel$PacketWriter" "mean" "[I") (List.mem_of_getElem? (i := 1) (by decide +kernel))) (fun _ h9 => h9) rfl dX1_writeNumber_73 ?_
          refine lv_iload_n hx hb dX1_writeNumber_76 rfl (lv_at hl 3 rfl) ?_
          refine lv_dup2_11 hx hb dX1_writeNumber_77 rfl rfl ?_
          refine wa_iald (D := (dC, dI)) (i := ctx) (f := S1_10.2.2.1) hx hb hK hP 3 0 rfl rfl (by omega) (by omega) dX1_writeNumber_78 ?_
          refine lv_iload_n hx hb dX1_writeNumber_79 rfl (lv_at hl 2 rfl) ?_
          refine lv_aload_n hx hb dX1_writeNumber_80 rfl (lv_at hl 1 rfl) ?_
          refine va_get (D := (dC, dI)) (ci := 1) (v := .ref wM) (C := RX1) (T := TX1) (N := 4) hx hb hts hinX1 hown hK hP 0 rfl rfl 2 (by decide) (hts (.fieldLink RX1 18 "GreyReel$PacketWriter" "mean" "[I") (List.mem_of_getElem? (i := 1) (by decide +kernel))) (fun _ h9 => h9) rfl dX1_writeNumber_81 ?_
          refine lv_iload_n hx hb dX1_writeNumber_84 rfl (lv_at hl 3 rfl) ?_
          refine wa_iald (D := (dC, dI)) (i := ctx) (f := S1_10.2.2.1) hx hb hK hP 3 0 rfl rfl (by omega) (by omega) dX1_writeNumber_85 ?_
          refine lv_iconst (v := 4) hx hb dX1_writeNumber_86 (by decide) ?_
          refine lv_idiv hx hb dX1_writeNumber_87 (by decide) ?_
          refine lv_isub hx hb dX1_writeNumber_88 ?_
          refine lv_iadd hx hb dX1_writeNumber_89 ?_
          refine lv_topi (fun x_11 ex_11 => ?_)
          refine wa_iast (D := (dC, dI)) (i := ctx) (f := S1_10.2.2.1) hx hb hK hP (hN.D rfl) hS (List.mem_of_getElem? (i := 3) rfl) 3 0 rfl rfl (by omega) (by omega) dX1_writeNumber_90 (fun H locs hP hS => ?_)
          obtain ⟨f_12, ef_12⟩ : ∃ z, z = upd S1_10.2.2.1 ctx x_11 := ⟨_, rfl⟩
          rw [← ef_12] at hP
          have hP : va_P (dC, dI) vwCl [(w0, .inr (1, [.ref wR, .ref wK, .ref wM, .int (nI S1_10.2.2.2)])), (wR, .inl (cI, 2487, .inl S1_10.1)), (wK, .inl (cI, 5, .inl S1_10.2.1)), (wM, .inl (cI, 3, .inl f_12))] H := hP
          exact W.vret hx hb hr (fun t ht hW => ⟨⟨(S1_10.1, S1_10.2.1, f_12, S1_10.2.2.2), rfl, (by unfold wnF kF; subst ef_12 ex_11 hwr_9 hwr_7; simp only [hk12]; rw [if_neg c31] <;> rfl), by show va_P _ _ _ t.heap; rw [ht]; exact hP.sub [0, 1, 2, 3] rfl⟩, hS.F ht⟩) hS.2.2 dX1_writeNumber_91
      · skip
        have c5 : ¬ 12 ≤ k := fun z => c5 ((nI_leI (a := 12) (b := k) (by omega) (by omega)).mpr z)
        refine lv_iconst (v := 4) hx hb dX1_writeNumber_8 (by decide) ?_
        refine lv_iload_n hx hb dX1_writeNumber_9 rfl (lv_at hl 0 rfl) ?_
        refine lv_ishl hx hb dX1_writeNumber_10 ?_
        refine lv_aload_n hx hb dX1_writeNumber_11 rfl (lv_at hl 1 rfl) ?_
        refine va_get (D := (dC, dI)) (ci := 1) (v := .ref wM) (C := RX1) (T := TX1) (N := 4) hx hb hts hinX1 hown hK hP 0 rfl rfl 2 (by decide) (hts (.fieldLink RX1 18 "GreyReel$PacketWriter" "mean" "[I") (List.mem_of_getElem? (i := 1) (by decide +kernel))) (fun _ h9 => h9) rfl dX1_writeNumber_12 ?_
        refine lv_iload_n hx hb dX1_writeNumber_15 rfl (lv_at hl 3 rfl) ?_
        refine wa_iald (D := (dC, dI)) (i := ctx) (f := S.2.2.1) hx hb hK hP 3 0 rfl rfl (by omega) (by omega) dX1_writeNumber_16 ?_
        refine lv_icmp_ge (tgt := 26) hx hb dX1_writeNumber_17 (by decide) (fun c17 => ?_) (fun c17 => ?_)
        · skip
          have hk12 := kS_fin hk hk2 c17
          refine lv_iload_n hx hb dX1_writeNumber_26 rfl (lv_at hl 2 rfl) ?_
          refine lv_iload_n hx hb dX1_writeNumber_27 rfl (lv_at hl 0 rfl) ?_
          refine lv_ishr hx hb dX1_writeNumber_28 ?_
          refine lv_bipush (v := 12) hx hb dX1_writeNumber_29 (by decide +kernel) ?_
          refine lv_icmp_lt (tgt := 53) hx hb dX1_writeNumber_31 (by decide) (fun c31 => ?_) (fun c31 => ?_)
          · skip
            have hpo := fun T => poF_n c31 T
            refine lv_aload_n hx hb dX1_writeNumber_53 rfl (lv_at hl 1 rfl) ?_
            refine lv_iload_n hx hb dX1_writeNumber_54 rfl (lv_at hl 2 rfl) ?_
            refine lv_iload_n hx hb dX1_writeNumber_55 rfl (lv_at hl 0 rfl) ?_
            refine lv_ishr hx hb dX1_writeNumber_56 ?_
            refine va_callv (va_runV (As := [.int (num >>> ((nI k) &&& 31))]) (rest := []) ⟨hx, hb, hml, hown, hts⟩ (C_X1_putOnes l dC dI cI cZ cP N0 tO w0 wR wK wM S (num >>> ((nI k) &&& 31)) (by omega) (hpo S).2.1 (by have := (hpo S).2.2; omega)) (cwV 1 hts gX1_writeNumber_X1_putOnes rfl rfl rfl (by decide +kernel) ⟨Nat.le_of_ble_eq_true rfl, Nat.le_of_ble_eq_true rfl⟩) ⟨Gv.blind, va_recv hK hP (ci := 1) (q0 := 0) rfl rfl, Gv.of (hE.S hS hAN) ⟨(hP.sub [0, 1, 2, 3] rfl), hN.sub [0, 1, 2, 3] (by decide) rfl⟩⟩ rfl rfl hl.1 rfl (lv_room (Nat.le_of_ble_eq_true rfl)) dX1_writeNumber_57 ⟨Nat.le_of_ble_eq_true rfl, Nat.le_of_ble_eq_true rfl⟩) hS (fun q _ h => inL_sub [0, 1, 2, 3] rfl q h) (inL_sub [0, 1, 2, 3] rfl) (fun u t H locs ht hvm hw hB hz1 hk1 hS => ?_)
            obtain ⟨S1_14, eu⟩ : ∃ z, z = u := ⟨_, rfl⟩
            subst eu
            rw [ht] at hB
            have hP := va_back (L := [w0, wR, wK, wM]) hP hN rfl [0, 1, 2, 3] rfl rfl (fun q h1 h2 => hk1 q h1 h2) hB
            clear hB hk1 hz1 hvm ht t
            have hP : va_P (dC, dI) vwCl [(w0, .inr (1, [.ref wR, .ref wK, .ref wM, .int (nI S1_14.2.2.2)])), (wR, .inl (cI, 2487, .inl S1_14.1)), (wK, .inl (cI, 5, .inl S1_14.2.1)), (wM, .inl (cI, 3, .inl S1_14.2.2.1))] H := hP
            have hw : S1_14 = poF (num >>> ((nI k) &&& 31)) S := hw
            have hwr_13 := hw
            have hwr_13 : S1_14 = poF (num >>> ((nI k) &&& 31)) S := hwr_13
            have hb3 : S1_14.2.2.2 ≤ S.2.2.2 + 12 := by rw [hwr_13]; exact (hpo S).1
            refine lv_aload_n hx hb dX1_writeNumber_60 rfl (lv_at hl 1 rfl) ?_
            refine lv_iload_n hx hb dX1_writeNumber_61 rfl (lv_at hl 2 rfl) ?_
            refine lv_iconst (v := 1) hx hb dX1_writeNumber_62 (by decide) ?_
            refine lv_iload_n hx hb dX1_writeNumber_63 rfl (lv_at hl 0 rfl) ?_
            refine lv_ishl hx hb dX1_writeNumber_64 ?_
            refine lv_iconst (v := 1) hx hb dX1_writeNumber_65 (by decide) ?_
            refine lv_isub hx hb dX1_writeNumber_66 ?_
            refine lv_iand hx hb dX1_writeNumber_67 ?_
            refine lv_iload_n hx hb dX1_writeNumber_68 rfl (lv_at hl 0 rfl) ?_
            refine va_callv (va_runV (As := [.int (num &&& ((1 <<< ((nI k) &&& 31)) - 1)), .int (nI k)]) (rest := []) ⟨hx, hb, hml, hown, hts⟩ (C_X1_put l dC dI cI cZ cP N0 tO w0 wR wK wM S1_14 (num &&& ((1 <<< ((nI k) &&& 31)) - 1)) (nI k) (by omega) (by rw [nI_toInt (by omega)]; omega) (by rw [nI_toInt (by omega)]; omega)) (cwV 2 hts gX1_writeNumber_X1_put rfl rfl rfl (by decide +kernel) ⟨Nat.le_of_ble_eq_true rfl, Nat.le_of_ble_eq_true rfl⟩) ⟨Gv.blind, va_recv hK hP (ci := 1) (q0 := 0) rfl rfl, Gv.of (hE.S hS hAN) ⟨(hP.sub [0, 1, 2, 3] rfl), hN.sub [0, 1, 2, 3] (by decide) rfl⟩⟩ rfl rfl hl.1 rfl (lv_room (Nat.le_of_ble_eq_true rfl)) dX1_writeNumber_69 ⟨Nat.le_of_ble_eq_true rfl, Nat.le_of_ble_eq_true rfl⟩) hS (fun q _ h => inL_sub [0, 1, 2, 3] rfl q h) (inL_sub [0, 1, 2, 3] rfl) (fun u t H locs ht hvm hw hB hz1 hk1 hS => ?_)
            obtain ⟨S1_16, eu⟩ : ∃ z, z = u := ⟨_, rfl⟩
            subst eu
            rw [ht] at hB
            have hP := va_back (L := [w0, wR, wK, wM]) hP hN rfl [0, 1, 2, 3] rfl rfl (fun q h1 h2 => hk1 q h1 h2) hB
            clear hB hk1 hz1 hvm ht t
            have hP : va_P (dC, dI) vwCl [(w0, .inr (1, [.ref wR, .ref wK, .ref wM, .int (nI S1_16.2.2.2)])), (wR, .inl (cI, 2487, .inl S1_16.1)), (wK, .inl (cI, 5, .inl S1_16.2.1)), (wM, .inl (cI, 3, .inl S1_16.2.2.1))] H := hP
            have hw : S1_16 = wpF (num &&& ((1 <<< ((nI k) &&& 31)) - 1)) (nI k) S1_14 := hw
            have hwr_15 := hw
            have hwr_15 : S1_16 = wpF (num &&& ((1 <<< ((nI k) &&& 31)) - 1)) (nI k) S1_14 := hwr_15
            refine lv_aload_n hx hb dX1_writeNumber_72 rfl (lv_at hl 1 rfl) ?_
            refine va_get (D := (dC, dI)) (ci := 1) (v := .ref wM) (C := RX1) (T := TX1) (N := 4) hx hb hts hinX1 hown hK hP 0 rfl rfl 2 (by decide) (hts (.fieldLink RX1 18 "GreyReel$PacketWriter" "mean" "[I") (List.mem_of_getElem? (i := 1) (by decide +kernel))) (fun _ h9 => h9) rfl dX1_writeNumber_73 ?_
            refine lv_iload_n hx hb dX1_writeNumber_76 rfl (lv_at hl 3 rfl) ?_
            refine lv_dup2_11 hx hb dX1_writeNumber_77 rfl rfl ?_
            refine wa_iald (D := (dC, dI)) (i := ctx) (f := S1_16.2.2.1) hx hb hK hP 3 0 rfl rfl (by omega) (by omega) dX1_writeNumber_78 ?_
            refine lv_iload_n hx hb dX1_writeNumber_79 rfl (lv_at hl 2 rfl) ?_
            refine lv_aload_n hx hb dX1_writeNumber_80 rfl (lv_at hl 1 rfl) ?_
            refine va_get (D := (dC, dI)) (ci := 1) (v := .ref wM) (C := RX1) (T := TX1) (N := 4) hx hb hts hinX1 hown hK hP 0 rfl rfl 2 (by decide) (hts (.fieldLink RX1 18 "GreyReel$PacketWriter" "mean" "[I") (List.mem_of_getElem? (i := 1) (by decide +kernel))) (fun _ h9 => h9) rfl dX1_writeNumber_81 ?_
            refine lv_iload_n hx hb dX1_writeNumber_84 rfl (lv_at hl 3 rfl) ?_
            refine wa_iald (D := (dC, dI)) (i := ctx) (f := S1_16.2.2.1) hx hb hK hP 3 0 rfl rfl (by omega) (by omega) dX1_writeNumber_85 ?_
            refine lv_iconst (v := 4) hx hb dX1_writeNumber_86 (by decide) ?_
            refine lv_idiv hx hb dX1_writeNumber_87 (by decide) ?_
            refine lv_isub hx hb dX1_writeNumber_88 ?_
            refine lv_iadd hx hb dX1_writeNumber_89 ?_
            refine lv_topi (fun x_17 ex_17 => ?_)
            refine wa_iast (D := (dC, dI)) (i := ctx) (f := S1_16.2.2.1) hx hb hK hP (hN.D rfl) hS (List.mem_of_getElem? (i := 3) rfl) 3 0 rfl rfl (by omega) (by omega) dX1_writeNumber_90 (fun H locs hP hS => ?_)
            obtain ⟨f_18, ef_18⟩ : ∃ z, z = upd S1_16.2.2.1 ctx x_17 := ⟨_, rfl⟩
            rw [← ef_18] at hP
            have hP : va_P (dC, dI) vwCl [(w0, .inr (1, [.ref wR, .ref wK, .ref wM, .int (nI S1_16.2.2.2)])), (wR, .inl (cI, 2487, .inl S1_16.1)), (wK, .inl (cI, 5, .inl S1_16.2.1)), (wM, .inl (cI, 3, .inl f_18))] H := hP
            exact W.vret hx hb hr (fun t ht hW => ⟨⟨(S1_16.1, S1_16.2.1, f_18, S1_16.2.2.2), rfl, (by unfold wnF kF; subst ef_18 ex_17 hwr_15 hwr_13; simp only [hk12]; rw [if_pos c31] <;> rfl), by show va_P _ _ _ t.heap; rw [ht]; exact hP.sub [0, 1, 2, 3] rfl⟩, hS.F ht⟩) hS.2.2 dX1_writeNumber_91
          · skip
            refine lv_aload_n hx hb dX1_writeNumber_34 rfl (lv_at hl 1 rfl) ?_
            refine lv_sipush (v := 4095) hx hb dX1_writeNumber_35 (by decide +kernel) ?_
            refine lv_bipush (v := 12) hx hb dX1_writeNumber_38 (by decide +kernel) ?_
            refine va_callv (va_runV (As := [.int 4095, .int 12]) (rest := []) ⟨hx, hb, hml, hown, hts⟩ (C_X1_put l dC dI cI cZ cP N0 tO w0 wR wK wM S 4095 12 (by omega) (by decide) (by decide)) (cwV 2 hts gX1_writeNumber_X1_put rfl rfl rfl (by decide +kernel) ⟨Nat.le_of_ble_eq_true rfl, Nat.le_of_ble_eq_true rfl⟩) ⟨Gv.blind, va_recv hK hP (ci := 1) (q0 := 0) rfl rfl, Gv.of (hE.S hS hAN) ⟨(hP.sub [0, 1, 2, 3] rfl), hN.sub [0, 1, 2, 3] (by decide) rfl⟩⟩ rfl rfl hl.1 rfl (lv_room (Nat.le_of_ble_eq_true rfl)) dX1_writeNumber_40 ⟨Nat.le_of_ble_eq_true rfl, Nat.le_of_ble_eq_true rfl⟩) hS (fun q _ h => inL_sub [0, 1, 2, 3] rfl q h) (inL_sub [0, 1, 2, 3] rfl) (fun u t H locs ht hvm hw hB hz1 hk1 hS => ?_)
            obtain ⟨S1_20, eu⟩ : ∃ z, z = u := ⟨_, rfl⟩
            subst eu
            rw [ht] at hB
            have hP := va_back (L := [w0, wR, wK, wM]) hP hN rfl [0, 1, 2, 3] rfl rfl (fun q h1 h2 => hk1 q h1 h2) hB
            clear hB hk1 hz1 hvm ht t
            have hP : va_P (dC, dI) vwCl [(w0, .inr (1, [.ref wR, .ref wK, .ref wM, .int (nI S1_20.2.2.2)])), (wR, .inl (cI, 2487, .inl S1_20.1)), (wK, .inl (cI, 5, .inl S1_20.2.1)), (wM, .inl (cI, 3, .inl S1_20.2.2.1))] H := hP
            have hw : S1_20 = wpF 4095 12 S := hw
            have hwr_19 := hw
            have hwr_19 : S1_20 = wpF 4095 12 S := hwr_19
            have hb2 : S1_20.2.2.2 < 1000012 := by rw [hwr_19]; show S.2.2.2 + 12 < _; omega
            refine lv_aload_n hx hb dX1_writeNumber_43 rfl (lv_at hl 1 rfl) ?_
            refine lv_iload_n hx hb dX1_writeNumber_44 rfl (lv_at hl 2 rfl) ?_
            refine lv_bipush (v := 12) hx hb dX1_writeNumber_45 (by decide +kernel) ?_
            refine va_callv (va_runV (As := [.int num, .int 12]) (rest := []) ⟨hx, hb, hml, hown, hts⟩ (C_X1_put l dC dI cI cZ cP N0 tO w0 wR wK wM S1_20 num 12 (by omega) (by decide) (by decide)) (cwV 2 hts gX1_writeNumber_X1_put rfl rfl rfl (by decide +kernel) ⟨Nat.le_of_ble_eq_true rfl, Nat.le_of_ble_eq_true rfl⟩) ⟨Gv.blind, va_recv hK hP (ci := 1) (q0 := 0) rfl rfl, Gv.of (hE.S hS hAN) ⟨(hP.sub [0, 1, 2, 3] rfl), hN.sub [0, 1, 2, 3] (by decide) rfl⟩⟩ rfl rfl hl.1 rfl (lv_room (Nat.le_of_ble_eq_true rfl)) dX1_writeNumber_47 ⟨Nat.le_of_ble_eq_true rfl, Nat.le_of_ble_eq_true rfl⟩) hS (fun q _ h => inL_sub [0, 1, 2, 3] rfl q h) (inL_sub [0, 1, 2, 3] rfl) (fun u t H locs ht hvm hw hB hz1 hk1 hS => ?_)
            obtain ⟨S1_22, eu⟩ : ∃ z, z = u := ⟨_, rfl⟩
            subst eu
            rw [ht] at hB
            have hP := va_back (L := [w0, wR, wK, wM]) hP hN rfl [0, 1, 2, 3] rfl rfl (fun q h1 h2 => hk1 q h1 h2) hB
            clear hB hk1 hz1 hvm ht t
            have hP : va_P (dC, dI) vwCl [(w0, .inr (1, [.ref wR, .ref wK, .ref wM, .int (nI S1_22.2.2.2)])), (wR, .inl (cI, 2487, .inl S1_22.1)), (wK, .inl (cI, 5, .inl S1_22.2.1)), (wM, .inl (cI, 3, .inl S1_22.2.2.1))] H := hP
            have hw : S1_22 = wpF num 12 S1_20 := hw
            have hwr_21 := hw
            have hwr_21 : S1_22 = wpF num 12 S1_20 := hwr_21
            refine lv_goto (tgt := 72) hx hb dX1_writeNumber_50 (by decide) ?_
            refine lv_aload_n hx hb dX1_writeNumber_72 rfl (lv_at hl 1 rfl) ?_
            refine va_get (D := (dC, dI)) (ci := 1) (v := .ref wM) (C := RX1) (T := TX1) (N := 4) hx hb hts hinX1 hown hK hP 0 rfl rfl 2 (by decide) (hts (.fieldLink RX1 18 "GreyReel$PacketWriter" "mean" "[I") (List.mem_of_getElem? (i := 1) (by decide +kernel))) (fun _ h9 => h9) rfl dX1_writeNumber_73 ?_
            refine lv_iload_n hx hb dX1_writeNumber_76 rfl (lv_at hl 3 rfl) ?_
            refine lv_dup2_11 hx hb dX1_writeNumber_77 rfl rfl ?_
            refine wa_iald (D := (dC, dI)) (i := ctx) (f := S1_22.2.2.1) hx hb hK hP 3 0 rfl rfl (by omega) (by omega) dX1_writeNumber_78 ?_
            refine lv_iload_n hx hb dX1_writeNumber_79 rfl (lv_at hl 2 rfl) ?_
            refine lv_aload_n hx hb dX1_writeNumber_80 rfl (lv_at hl 1 rfl) ?_
            refine va_get (D := (dC, dI)) (ci := 1) (v := .ref wM) (C := RX1) (T := TX1) (N := 4) hx hb hts hinX1 hown hK hP 0 rfl rfl 2 (by decide) (hts (.fieldLink RX1 18 "GreyReel$PacketWriter" "mean" "[I") (List.mem_of_getElem? (i := 1) (by decide +kernel))) (fun _ h9 => h9) rfl dX1_writeNumber_81 ?_
            refine lv_iload_n hx hb dX1_writeNumber_84 rfl (lv_at hl 3 rfl) ?_
            refine wa_iald (D := (dC, dI)) (i := ctx) (f := S1_22.2.2.1) hx hb hK hP 3 0 rfl rfl (by omega) (by omega) dX1_writeNumber_85 ?_
            refine lv_iconst (v := 4) hx hb dX1_writeNumber_86 (by decide) ?_
            refine lv_idiv hx hb dX1_writeNumber_87 (by decide) ?_
            refine lv_isub hx hb dX1_writeNumber_88 ?_
            refine lv_iadd hx hb dX1_writeNumber_89 ?_
            refine lv_topi (fun x_23 ex_23 => ?_)
            refine wa_iast (D := (dC, dI)) (i := ctx) (f := S1_22.2.2.1) hx hb hK hP (hN.D rfl) hS (List.mem_of_getElem? (i := 3) rfl) 3 0 rfl rfl (by omega) (by omega) dX1_writeNumber_90 (fun H locs hP hS => ?_)
            obtain ⟨f_24, ef_24⟩ : ∃ z, z = upd S1_22.2.2.1 ctx x_23 := ⟨_, rfl⟩
            rw [← ef_24] at hP
            have hP : va_P (dC, dI) vwCl [(w0, .inr (1, [.ref wR, .ref wK, .ref wM, .int (nI S1_22.2.2.2)])), (wR, .inl (cI, 2487, .inl S1_22.1)), (wK, .inl (cI, 5, .inl S1_22.2.1)), (wM, .inl (cI, 3, .inl f_24))] H := hP
            exact W.vret hx hb hr (fun t ht hW => ⟨⟨(S1_22.1, S1_22.2.1, f_24, S1_22.2.2.2), rfl, (by unfold wnF kF; subst ef_24 ex_23 hwr_21 hwr_19; simp only [hk12]; rw [if_neg c31] <;> rfl), by show va_P _ _ _ t.heap; rw [ht]; exact hP.sub [0, 1, 2, 3] rfl⟩, hS.F ht⟩) hS.2.2 dX1_writeNumber_91
        · skip
          refine lv_iinc (v := nI (k + 1)) (lv' := [(3, .int (nI (k + 1))), (0, .ref w0), (1, .int num), (2, .int (nI ctx))]) hx hb dX1_writeNumber_20 hl (k := 0) rfl (show nI k + Int32.ofInt 1 = nI (k + 1) from nI_add _ _) (by decide) rfl (fun ls hl => ?_)
          refine lv_goto (tgt := 2) hx hb dX1_writeNumber_23 (by decide) ?_
          exact ih2 (k + 1) (kS_s hk (by omega) c17) (by omega) (by omega) _ _ _ hP hS (lv_sub hl [0, 1, 2, 3] rfl)
  exact L2 (12 + 1) 0 rfl (by omega) (Nat.lt_succ_self _) _ _ _ hP hS (lv_sub hl [0, 1, 2, 3] rfl)
set_option maxHeartbeats 4000000 in
set_option maxRecDepth 100000 in
theorem C_X1_writeKind (l : Launch) (dC : Nat → ClassId) (dI : Nat → Nat → Nat) (cI cZ cP : ClassId) (N0 tO : Nat) (w0 wR wK wM : Nat) (S : WST) (kd : Nat) (hnb : S.2.2.2 < 1000000) (h1 : kd < 5) : Met l yX1_writeKind wsX1_writeKind ({ frames := 2, cells := 0, slots := 0, locals := 45 } : Room) (Gv (dC, dI) cI cZ cP N0 tO [.ref w0, .int (nI kd)] (fun H => va_P (dC, dI) vwCl [(w0, .inr (1, [.ref wR, .ref wK, .ref wM, .int (nI S.2.2.2)])), (wR, .inl (cI, 2487, .inl S.1)), (wK, .inl (cI, 5, .inl S.2.1)), (wM, .inl (cI, 3, .inl S.2.2.1))] H ∧ AD N0 [w0, wR, wK, wM])) (va_Qv (fun (S1 : WST) => S1 = wkF kd S) (fun (S1 : WST) (t : State) => va_P (dC, dI) vwCl [(w0, .inr (1, [.ref wR, .ref wK, .ref wM, .int (nI S1.2.2.2)])), (wR, .inl (cI, 2487, .inl S1.1)), (wK, .inl (cI, 5, .inl S1.2.1)), (wM, .inl (cI, 3, .inl S1.2.2.1))] t.heap) (inL [w0, wR, wK, wM])) 0 0 (inL [w0, wR, wK, wM]) := by
  refine Met.ofW (cc := cX1_writeKind) (maxL := 4) (ret := none) (by decide) rfl ?_
  intro p e s m args below meth c s₁ B hml hv
  obtain ⟨rfl, hE, hP, hN⟩ := hv
  have hx := B.exec
  have hb := B.bytes
  have hr := B.returns
  have hts := atoms_spec (ws := wsX1_writeKind) B.pre
  have hown : s.vm.findClass RX1 = some m.cls := findClass_of_methodNamed B.named
  have hlocks := B.notSynchronized
  have hK := hE.1
  have hNS := hE.2.1
  have hS : va_S (inL [w0, wR, wK, wM]) s.heap s.heap [] := va_S.rf
  have hAN : ∀ q : Nat, (inL [w0, wR, wK, wM]) q → N0 ≤ q := fun q h => hN.in [0, 1, 2, 3] rfl q h
  have hP : va_P (dC, dI) vwCl [(w0, .inr (1, [.ref wR, .ref wK, .ref wM, .int (nI S.2.2.2)])), (wR, .inl (cI, 2487, .inl S.1)), (wK, .inl (cI, 5, .inl S.2.1)), (wM, .inl (cI, 3, .inl S.2.2.1))] s.heap := hP
  have hinX1 : ∀ w ∈ wsX10, w ∈ wsX1_writeKind := by decide +kernel
  have hl := lv_entry ([.ref w0, .int (nI kd)]) (n := 4) (Nat.le_of_ble_eq_true rfl)
  rw [lg_entry_eq]
  generalize (lg_sl ([.ref w0, .int (nI kd)]) ++ List.replicate (4 - (lg_sl ([.ref w0, .int (nI kd)])).length) Slot.unset).toArray = ls at hl ⊢
  have hl : lv_has ls 4 [(0, .ref w0), (1, .int (nI kd))] := hl
  refine lv_iconst (v := 0) hx hb dX1_writeKind_0 (by decide) ?_
  refine lv_istore_n (lv' := [(2, .int 0), (0, .ref w0), (1, .int (nI kd))]) hx hb dX1_writeKind_1 rfl hl (by decide) rfl (fun ls hl => ?_)
  have L2 : ∀ (n2 : Nat) (i : Nat), (pS S.2.1 (nI kd) i = i) → (i ≤ 4) → 4 - i < n2 → ∀ (H : Heap) (locs : List Loc) (ls : Array Slot), va_P (dC, dI) vwCl [(w0, .inr (1, [.ref wR, .ref wK, .ref wM, .int (nI S.2.2.2)])), (wR, .inl (cI, 2487, .inl S.1)), (wK, .inl (cI, 5, .inl S.2.1)), (wM, .inl (cI, 3, .inl S.2.2.1))] H → va_S (inL [w0, wR, wK, wM]) s.heap H locs → lv_has ls 4 [(2, .int (nI i)), (0, .ref w0), (1, .int (nI kd))] → W p l e (headSpec wsX1_writeKind ({ frames := 2, cells := 0, slots := 0, locals := 45 } : Room)).room s m ([.ref w0, .int (nI kd)] : List Value).toArray below meth c H locs 0 0 (MQ below (va_Qv (fun (S1 : WST) => S1 = wkF kd S) (fun (S1 : WST) (t : State) => va_P (dC, dI) vwCl [(w0, .inr (1, [.ref wR, .ref wK, .ref wM, .int (nI S1.2.2.2)])), (wR, .inl (cI, 2487, .inl S1.1)), (wK, .inl (cI, 5, .inl S1.2.1)), (wM, .inl (cI, 3, .inl S1.2.2.1))] t.heap) (inL [w0, wR, wK, wM])) ([.ref w0, .int (nI kd)] : List Value).toArray s 0 0 (inL [w0, wR, wK, wM])) (F0 m 2 ls []) := by
    intro n2
    induction n2 with
    | zero => intro i hi hi4 hz; exact absurd hz (Nat.not_lt_zero _)
    | succ n2 ih2 =>
      intro i hi hi4 hfu H locs ls hP hS hl
      refine lv_iload_n hx hb dX1_writeKind_2 rfl (lv_at hl 0 rfl) ?_
      refine lv_iconst (v := 4) hx hb dX1_writeKind_3 (by decide) ?_
      refine lv_icmp_ge (tgt := 23) hx hb dX1_writeKind_4 (by decide) (fun c4 => ?_) (fun c4 => ?_)
      · skip
        have c4 : 4 ≤ i := (nI_leI (a := 4) (b := i) (by omega) (by omega)).mp c4
        have hp : pF S.2.1 (nI kd) = i := pS_end hi (by omega) hi4
        refine lv_iload_n hx hb dX1_writeKind_23 rfl (lv_at hl 0 rfl) ?_
        refine lv_istore_n (lv' := [(3, .int (nI i)), (2, .int (nI i)), (0, .ref w0), (1, .int (nI kd))]) hx hb dX1_writeKind_24 rfl hl (by decide) rfl (fun ls hl => ?_)
        have L25 : ∀ (n25 : Nat) (bh : Nat) (k1 : Nat → Int32), (bh ≤ i) → bh < n25 → k1 = (shK S.2.1 i bh) → ∀ (H : Heap) (locs : List Loc) (ls : Array Slot), va_P (dC, dI) vwCl [(w0, .inr (1, [.ref wR, .ref wK, .ref wM, .int (nI S.2.2.2)])), (wR, .inl (cI, 2487, .inl S.1)), (wK, .inl (cI, 5, .inl k1)), (wM, .inl (cI, 3, .inl S.2.2.1))] H → va_S (inL [w0, wR, wK, wM]) s.heap H locs → lv_has ls 4 [(3, .int (nI bh)), (2, .int (nI i)), (0, .ref w0), (1, .int (nI kd))] → W p l e (headSpec wsX1_writeKind ({ frames := 2, cells := 0, slots := 0, locals := 45 } : Room)).room s m ([.ref w0, .int (nI kd)] : List Value).toArray below meth c H locs 0 0 (MQ below (va_Qv (fun (S1 : WST) => S1 = wkF kd S) (fun (S1 : WST) (t : State) => va_P (dC, dI) vwCl [(w0, .inr (1, [.ref wR, .ref wK, .ref wM, .int (nI S1.2.2.2)])), (wR, .inl (cI, 2487, .inl S1.1)), (wK, .inl (cI, 5, .inl S1.2.1)), (wM, .inl (cI, 3, .inl S1.2.2.1))] t.heap) (inL [w0, wR, wK, wM])) ([.ref w0, .int (nI kd)] : List Value).toArray s 0 0 (inL [w0, wR, wK, wM])) (F0 m 25 ls []) := by
          intro n25
          induction n25 with
          | zero => intro bh k1 hbh hz; exact absurd hz (Nat.not_lt_zero _)
          | succ n25 ih25 =>
            intro bh k1 hbh hfu ek1 H locs ls hP hS hl
            refine lv_iload_n hx hb dX1_writeKind_25 rfl (lv_at hl 0 rfl) ?_
            refine lv_if_le (tgt := 49) hx hb dX1_writeKind_26 (by decide) (fun c26 => ?_) (fun c26 => ?_)
            · skip
              have c26 : bh ≤ 0 := (nI_leI (a := bh) (b := 0) (by omega) (by omega)).mp c26
              obtain rfl : bh = 0 := by omega
              refine lv_aload_n hx hb dX1_writeKind_49 rfl (lv_at hl 2 rfl) ?_
              refine va_get (D := (dC, dI)) (ci := 1) (v := .ref wK) (C := RX1) (T := TX1) (N := 4) hx hb hts hinX1 hown hK hP 0 rfl rfl 1 (by decide) (hts (.fieldLink RX1 15 "GreyReel$PacketWriter" "kindRow" "[I") (List.mem_of_getElem? (i := 1) (by decide +kernel))) (fun _ h9 => h9) rfl dX1_writeKind_50 ?_
              refine lv_iconst (v := 0) hx hb dX1_writeKind_53 (by decide) ?_
              refine lv_iload_n hx hb dX1_writeKind_54 rfl (lv_at hl 3 rfl) ?_
              refine lv_topr2 (show (0 : Int32) = nI 0 from rfl) ?_
              refine wa_iast (D := (dC, dI)) (i := 0) (f := k1) hx hb hK hP (hN.D rfl) hS (List.mem_of_getElem? (i := 2) rfl) 2 0 rfl rfl (by omega) (by omega) dX1_writeKind_55 (fun H locs hP hS => ?_)
              obtain ⟨f_1, ef_1⟩ : ∃ z, z = upd k1 0 (nI kd) := ⟨_, rfl⟩
              rw [← ef_1] at hP
              have hP : va_P (dC, dI) vwCl [(w0, .inr (1, [.ref wR, .ref wK, .ref wM, .int (nI S.2.2.2)])), (wR, .inl (cI, 2487, .inl S.1)), (wK, .inl (cI, 5, .inl f_1)), (wM, .inl (cI, 3, .inl S.2.2.1))] H := hP
              refine lv_iload_n hx hb dX1_writeKind_56 rfl (lv_at hl 1 rfl) ?_
              refine lv_iconst (v := 4) hx hb dX1_writeKind_57 (by decide) ?_
              refine lv_icmp_ge (tgt := 69) hx hb dX1_writeKind_58 (by decide) (fun c58 => ?_) (fun c58 => ?_)
              · skip
                have c58 : 4 ≤ i := (nI_leI (a := 4) (b := i) (by omega) (by omega)).mp c58
                refine lv_aload_n hx hb dX1_writeKind_69 rfl (lv_at hl 2 rfl) ?_
                refine lv_iconst (v := 1) hx hb dX1_writeKind_70 (by decide) ?_
                refine lv_iload_n hx hb dX1_writeKind_71 rfl (lv_at hl 1 rfl) ?_
                refine lv_ishl hx hb dX1_writeKind_72 ?_
                refine lv_iconst (v := 1) hx hb dX1_writeKind_73 (by decide) ?_
                refine lv_isub hx hb dX1_writeKind_74 ?_
                refine lv_iload_n hx hb dX1_writeKind_75 rfl (lv_at hl 1 rfl) ?_
                refine va_callv (va_runV (As := [.int ((1 <<< ((nI i) &&& 31)) - 1), .int (nI i)]) (rest := []) ⟨hx, hb, hml, hown, hts⟩ (C_X1_put l dC dI cI cZ cP N0 tO w0 wR wK wM (S.1, f_1, S.2.2.1, S.2.2.2) ((1 <<< ((nI i) &&& 31)) - 1) (nI i) (show S.2.2.2 < 2000000 by omega) (by rw [nI_toInt (by omega)]; omega) (by rw [nI_toInt (by omega)]; omega)) (cwV 2 hts gX1_writeKind_X1_put rfl rfl rfl (by decide +kernel) ⟨Nat.le_of_ble_eq_true rfl, Nat.le_of_ble_eq_true rfl⟩) ⟨Gv.blind, va_recv hK hP (ci := 1) (q0 := 0) rfl rfl, Gv.of (hE.S hS hAN) ⟨(hP.sub [0, 1, 2, 3] rfl), hN.sub [0, 1, 2, 3] (by decide) rfl⟩⟩ rfl rfl hl.1 rfl (lv_room (Nat.le_of_ble_eq_true rfl)) dX1_writeKind_76 ⟨Nat.le_of_ble_eq_true rfl, Nat.le_of_ble_eq_true rfl⟩) hS (fun q _ h => inL_sub [0, 1, 2, 3] rfl q h) (inL_sub [0, 1, 2, 3] rfl) (fun u t H locs ht hvm hw hB hz1 hk1 hS => ?_)
                obtain ⟨S1_3, eu⟩ : ∃ z, z = u := ⟨_, rfl⟩
                subst eu
                rw [ht] at hB
                have hP := va_back (L := [w0, wR, wK, wM]) hP hN rfl [0, 1, 2, 3] rfl rfl (fun q h1 h2 => hk1 q h1 h2) hB
                clear hB hk1 hz1 hvm ht t
                have hP : va_P (dC, dI) vwCl [(w0, .inr (1, [.ref wR, .ref wK, .ref wM, .int (nI S1_3.2.2.2)])), (wR, .inl (cI, 2487, .inl S1_3.1)), (wK, .inl (cI, 5, .inl S1_3.2.1)), (wM, .inl (cI, 3, .inl S1_3.2.2.1))] H := hP
                have hw : S1_3 = wpF ((1 <<< ((nI i) &&& 31)) - 1) (nI i) (S.1, f_1, S.2.2.1, S.2.2.2) := hw
                have hwr_2 := hw
                have hwr_2 : S1_3 = wpF ((1 <<< ((nI i) &&& 31)) - 1) (nI i) (S.1, f_1, S.2.2.1, S.2.2.2) := hwr_2
                exact W.vret hx hb hr (fun t ht hW => ⟨⟨S1_3, rfl, (by unfold wkF; subst hwr_2 ef_1 ek1; simp only [hp]; rw [if_neg (by omega)] <;> rfl), by show va_P _ _ _ t.heap; rw [ht]; exact hP.sub [0, 1, 2, 3] rfl⟩, hS.F ht⟩) hS.2.2 dX1_writeKind_79
              · skip
                have c58 : ¬ 4 ≤ i := fun z => c58 ((nI_leI (a := 4) (b := i) (by omega) (by omega)).mpr z)
                refine lv_aload_n hx hb dX1_writeKind_61 rfl (lv_at hl 2 rfl) ?_
                refine lv_iload_n hx hb dX1_writeKind_62 rfl (lv_at hl 1 rfl) ?_
                refine va_callv (va_runV (As := [.int (nI i)]) (rest := []) ⟨hx, hb, hml, hown, hts⟩ (C_X1_putOnes l dC dI cI cZ cP N0 tO w0 wR wK wM (S.1, f_1, S.2.2.1, S.2.2.2) (nI i) (show S.2.2.2 < 2000000 by omega) (by rw [ti_n1 (by omega)]; omega) (by rw [ti_n1 (by omega)]; omega)) (cwV 1 hts gX1_writeKind_X1_putOnes rfl rfl rfl (by decide +kernel) ⟨Nat.le_of_ble_eq_true rfl, Nat.le_of_ble_eq_true rfl⟩) ⟨Gv.blind, va_recv hK hP (ci := 1) (q0 := 0) rfl rfl, Gv.of (hE.S hS hAN) ⟨(hP.sub [0, 1, 2, 3] rfl), hN.sub [0, 1, 2, 3] (by decide) rfl⟩⟩ rfl rfl hl.1 rfl (lv_room (Nat.le_of_ble_eq_true rfl)) dX1_writeKind_63 ⟨Nat.le_of_ble_eq_true rfl, Nat.le_of_ble_eq_true rfl⟩) hS (fun q _ h => inL_sub [0, 1, 2, 3] rfl q h) (inL_sub [0, 1, 2, 3] rfl) (fun u t H locs ht hvm hw hB hz1 hk1 hS => ?_)
                obtain ⟨S1_5, eu⟩ : ∃ z, z = u := ⟨_, rfl⟩
                subst eu
                rw [ht] at hB
                have hP := va_back (L := [w0, wR, wK, wM]) hP hN rfl [0, 1, 2, 3] rfl rfl (fun q h1 h2 => hk1 q h1 h2) hB
                clear hB hk1 hz1 hvm ht t
                have hP : va_P (dC, dI) vwCl [(w0, .inr (1, [.ref wR, .ref wK, .ref wM, .int (nI S1_5.2.2.2)])), (wR, .inl (cI, 2487, .inl S1_5.1)), (wK, .inl (cI, 5, .inl S1_5.2.1)), (wM, .inl (cI, 3, .inl S1_5.2.2.1))] H := hP
                have hw : S1_5 = poF (nI i) (S.1, f_1, S.2.2.1, S.2.2.2) := hw
                have hwr_4 := hw
                have hwr_4 : S1_5 = poF (nI i) (S.1, f_1, S.2.2.1, S.2.2.2) := hwr_4
                refine lv_goto (tgt := 79) hx hb dX1_writeKind_66 (by decide) ?_
                exact W.vret hx hb hr (fun t ht hW => ⟨⟨S1_5, rfl, (by unfold wkF; subst hwr_4 ef_1 ek1; simp only [hp]; rw [if_pos (by omega)] <;> rfl), by show va_P _ _ _ t.heap; rw [ht]; exact hP.sub [0, 1, 2, 3] rfl⟩, hS.F ht⟩) hS.2.2 dX1_writeKind_79
            · skip
              have c26 : ¬ bh ≤ 0 := fun z => c26 ((nI_leI (a := bh) (b := 0) (by omega) (by omega)).mpr z)
              refine lv_aload_n hx hb dX1_writeKind_29 rfl (lv_at hl 2 rfl) ?_
              refine va_get (D := (dC, dI)) (ci := 1) (v := .ref wK) (C := RX1) (T := TX1) (N := 4) hx hb hts hinX1 hown hK hP 0 rfl rfl 1 (by decide) (hts (.fieldLink RX1 15 "GreyReel$PacketWriter" "kindRow" "[I") (List.mem_of_getElem? (i := 1) (by decide +kernel))) (fun _ h9 => h9) rfl dX1_writeKind_30 ?_
              refine lv_iload_n hx hb dX1_writeKind_33 rfl (lv_at hl 0 rfl) ?_
              refine lv_aload_n hx hb dX1_writeKind_34 rfl (lv_at hl 2 rfl) ?_
              refine va_get (D := (dC, dI)) (ci := 1) (v := .ref wK) (C := RX1) (T := TX1) (N := 4) hx hb hts hinX1 hown hK hP 0 rfl rfl 1 (by decide) (hts (.fieldLink RX1 15 "GreyReel$PacketWriter" "kindRow" "[I") (List.mem_of_getElem? (i := 1) (by decide +kernel))) (fun _ h9 => h9) rfl dX1_writeKind_35 ?_
              refine lv_iload_n hx hb dX1_writeKind_38 rfl (lv_at hl 0 rfl) ?_
              refine lv_iconst (v := 1) hx hb dX1_writeKind_39 (by decide) ?_
              refine lv_isub hx hb dX1_writeKind_40 ?_
              refine lv_topr (show _ = nI (bh - 1) from pk_sub (a := bh) (b := 1) (by omega)) ?_
              refine wa_iald (D := (dC, dI)) (i := (bh - 1)) (f := k1) hx hb hK hP 2 0 rfl rfl (by omega) (by omega) dX1_writeKind_41 ?_
              refine lv_topi (fun x_6 ex_6 => ?_)
              refine wa_iast (D := (dC, dI)) (i := bh) (f := k1) hx hb hK hP (hN.D rfl) hS (List.mem_of_getElem? (i := 2) rfl) 2 0 rfl rfl (by omega) (by omega) dX1_writeKind_42 (fun H locs hP hS => ?_)
              obtain ⟨f_7, ef_7⟩ : ∃ z, z = upd k1 bh x_6 := ⟨_, rfl⟩
              rw [← ef_7] at hP
              have hP : va_P (dC, dI) vwCl [(w0, .inr (1, [.ref wR, .ref wK, .ref wM, .int (nI S.2.2.2)])), (wR, .inl (cI, 2487, .inl S.1)), (wK, .inl (cI, 5, .inl f_7)), (wM, .inl (cI, 3, .inl S.2.2.1))] H := hP
              refine lv_iinc (v := nI (bh - 1)) (lv' := [(3, .int (nI (bh - 1))), (2, .int (nI i)), (0, .ref w0), (1, .int (nI kd))]) hx hb dX1_writeKind_43 hl (k := 0) rfl (nI_dec (by omega)) (by decide) rfl (fun ls hl => ?_)
              refine lv_goto (tgt := 25) hx hb dX1_writeKind_46 (by decide) ?_
              exact ih25 (bh - 1) f_7 (by omega) (by omega) (by rw [ef_7, ex_6, ek1]; exact shK_d _ (by omega) (by omega) (shK_lt _ (by omega))) _ _ _ hP hS (lv_sub hl [0, 1, 2, 3] rfl)
        exact L25 (i + 1) i S.2.1 (by omega) (Nat.lt_succ_self _) (shK_0 _ _).symm _ _ _ hP hS (lv_sub hl [0, 1, 2, 3] rfl)
      · skip
        have c4 : ¬ 4 ≤ i := fun z => c4 ((nI_leI (a := 4) (b := i) (by omega) (by omega)).mpr z)
        refine lv_aload_n hx hb dX1_writeKind_7 rfl (lv_at hl 1 rfl) ?_
        refine va_get (D := (dC, dI)) (ci := 1) (v := .ref wK) (C := RX1) (T := TX1) (N := 4) hx hb hts hinX1 hown hK hP 0 rfl rfl 1 (by decide) (hts (.fieldLink RX1 15 "GreyReel$PacketWriter" "kindRow" "[I") (List.mem_of_getElem? (i := 1) (by decide +kernel))) (fun _ h9 => h9) rfl dX1_writeKind_8 ?_
        refine lv_iload_n hx hb dX1_writeKind_11 rfl (lv_at hl 0 rfl) ?_
        refine wa_iald (D := (dC, dI)) (i := i) (f := S.2.1) hx hb hK hP 2 0 rfl rfl (by omega) (by omega) dX1_writeKind_12 ?_
        refine lv_iload_n hx hb dX1_writeKind_13 rfl (lv_at hl 2 rfl) ?_
        refine lv_icmp_eq (tgt := 23) hx hb dX1_writeKind_14 (by decide) (fun c14 => ?_) (fun c14 => ?_)
        · skip
          have hp : pF S.2.1 (nI kd) = i := pS_fin hi hi4 c14
          refine lv_iload_n hx hb dX1_writeKind_23 rfl (lv_at hl 0 rfl) ?_
          refine lv_istore_n (lv' := [(3, .int (nI i)), (2, .int (nI i)), (0, .ref w0), (1, .int (nI kd))]) hx hb dX1_writeKind_24 rfl hl (by decide) rfl (fun ls hl => ?_)
          have L25 : ∀ (n25 : Nat) (bh : Nat) (k1 : Nat → Int32), (bh ≤ i) → bh < n25 → k1 = (shK S.2.1 i bh) → ∀ (H : Heap) (locs : List Loc) (ls : Array Slot), va_P (dC, dI) vwCl [(w0, .inr (1, [.ref wR, .ref wK, .ref wM, .int (nI S.2.2.2)])), (wR, .inl (cI, 2487, .inl S.1)), (wK, .inl (cI, 5, .inl k1)), (wM, .inl (cI, 3, .inl S.2.2.1))] H → va_S (inL [w0, wR, wK, wM]) s.heap H locs → lv_has ls 4 [(3, .int (nI bh)), (2, .int (nI i)), (0, .ref w0), (1, .int (nI kd))] → W p l e (headSpec wsX1_writeKind ({ frames := 2, cells := 0, slots := 0, locals := 45 } : Room)).room s m ([.ref w0, .int (nI kd)] : List Value).toArray below meth c H locs 0 0 (MQ below (va_Qv (fun (S1 : WST) => S1 = wkF kd S) (fun (S1 : WST) (t : State) => va_P (dC, dI) vwCl [(w0, .inr (1, [.ref wR, .ref wK, .ref wM, .int (nI S1.2.2.2)])), (wR, .inl (cI, 2487, .inl S1.1)), (wK, .inl (cI, 5, .inl S1.2.1)), (wM, .inl (cI, 3, .inl S1.2.2.1))] t.heap) (inL [w0, wR, wK, wM])) ([.ref w0, .int (nI kd)] : List Value).toArray s 0 0 (inL [w0, wR, wK, wM])) (F0 m 25 ls []) := by
            intro n25
            induction n25 with
            | zero => intro bh k1 hbh hz; exact absurd hz (Nat.not_lt_zero _)
            | succ n25 ih25 =>
              intro bh k1 hbh hfu ek1 H locs ls hP hS hl
              refine lv_iload_n hx hb dX1_writeKind_25 rfl (lv_at hl 0 rfl) ?_
              refine lv_if_le (tgt := 49) hx hb dX1_writeKind_26 (by decide) (fun c26 => ?_) (fun c26 => ?_)
              · skip
                have c26 : bh ≤ 0 := (nI_leI (a := bh) (b := 0) (by omega) (by omega)).mp c26
                obtain rfl : bh = 0 := by omega
                refine lv_aload_n hx hb dX1_writeKind_49 rfl (lv_at hl 2 rfl) ?_
                refine va_get (D := (dC, dI)) (ci := 1) (v := .ref wK) (C := RX1) (T := TX1) (N := 4) hx hb hts hinX1 hown hK hP 0 rfl rfl 1 (by decide) (hts (.fieldLink RX1 15 "GreyReel$PacketWriter" "kindRow" "[I") (List.mem_of_getElem? (i := 1) (by decide +kernel))) (fun _ h9 => h9) rfl dX1_writeKind_50 ?_
                refine lv_iconst (v := 0) hx hb dX1_writeKind_53 (by decide) ?_
                refine lv_iload_n hx hb dX1_writeKind_54 rfl (lv_at hl 3 rfl) ?_
                refine lv_topr2 (show (0 : Int32) = nI 0 from rfl) ?_
                refine wa_iast (D := (dC, dI)) (i := 0) (f := k1) hx hb hK hP (hN.D rfl) hS (List.mem_of_getElem? (i := 2) rfl) 2 0 rfl rfl (by omega) (by omega) dX1_writeKind_55 (fun H locs hP hS => ?_)
                obtain ⟨f_8, ef_8⟩ : ∃ z, z = upd k1 0 (nI kd) := ⟨_, rfl⟩
                rw [← ef_8] at hP
                have hP : va_P (dC, dI) vwCl [(w0, .inr (1, [.ref wR, .ref wK, .ref wM, .int (nI S.2.2.2)])), (wR, .inl (cI, 2487, .inl S.1)), (wK, .inl (cI, 5, .inl f_8)), (wM, .inl (cI, 3, .inl S.2.2.1))] H := hP
                refine lv_iload_n hx hb dX1_writeKind_56 rfl (lv_at hl 1 rfl) ?_
                refine lv_iconst (v := 4) hx hb dX1_writeKind_57 (by decide) ?_
                refine lv_icmp_ge (tgt := 69) hx hb dX1_writeKind_58 (by decide) (fun c58 => ?_) (fun c58 => ?_)
                · skip
                  have c58 : 4 ≤ i := (nI_leI (a := 4) (b := i) (by omega) (by omega)).mp c58
                  refine lv_aload_n hx hb dX1_writeKind_69 rfl (lv_at hl 2 rfl) ?_
                  refine lv_iconst (v := 1) hx hb dX1_writeKind_70 (by decide) ?_
                  refine lv_iload_n hx hb dX1_writeKind_71 rfl (lv_at hl 1 rfl) ?_
                  refine lv_ishl hx hb dX1_writeKind_72 ?_
                  refine lv_iconst (v := 1) hx hb dX1_writeKind_73 (by decide) ?_
                  refine lv_isub hx hb dX1_writeKind_74 ?_
                  refine lv_iload_n hx hb dX1_writeKind_75 rfl (lv_at hl 1 rfl) ?_
                  refine va_callv (va_runV (As := [.int ((1 <<< ((nI i) &&& 31)) - 1), .int (nI i)]) (rest := []) ⟨hx, hb, hml, hown, hts⟩ (C_X1_put l dC dI cI cZ cP N0 tO w0 wR wK wM (S.1, f_8, S.2.2.1, S.2.2.2) ((1 <<< ((nI i) &&& 31)) - 1) (nI i) (show S.2.2.2 < 2000000 by omega) (by rw [nI_toInt (by omega)]; omega) (by rw [nI_toInt (by omega)]; omega)) (cwV 2 hts gX1_writeKind_X1_put rfl rfl rfl (by decide +kernel) ⟨Nat.le_of_ble_eq_true rfl, Nat.le_of_ble_eq_true rfl⟩) ⟨Gv.blind, va_recv hK hP (ci := 1) (q0 := 0) rfl rfl, Gv.of (hE.S hS hAN) ⟨(hP.sub [0, 1, 2, 3] rfl), hN.sub [0, 1, 2, 3] (by decide) rfl⟩⟩ rfl rfl hl.1 rfl (lv_room (Nat.le_of_ble_eq_true rfl)) dX1_writeKind_76 ⟨Nat.le_of_ble_eq_true rfl, Nat.le_of_ble_eq_true rfl⟩) hS (fun q _ h => inL_sub [0, 1, 2, 3] rfl q h) (inL_sub [0, 1, 2, 3] rfl) (fun u t H locs ht hvm hw hB hz1 hk1 hS => ?_)
                  obtain ⟨S1_10, eu⟩ : ∃ z, z = u := ⟨_, rfl⟩
                  subst eu
                  rw [ht] at hB
                  have hP := va_back (L := [w0, wR, wK, wM]) hP hN rfl [0, 1, 2, 3] rfl rfl (fun q h1 h2 => hk1 q h1 h2) hB
                  clear hB hk1 hz1 hvm ht t
                  have hP : va_P (dC, dI) vwCl [(w0, .inr (1, [.ref wR, .ref wK, .ref wM, .int (nI S1_10.2.2.2)])), (wR, .inl (cI, 2487, .inl S1_10.1)), (wK, .inl (cI, 5, .inl S1_10.2.1)), (wM, .inl (cI, 3, .inl S1_10.2.2.1))] H := hP
                  have hw : S1_10 = wpF ((1 <<< ((nI i) &&& 31)) - 1) (nI i) (S.1, f_8, S.2.2.1, S.2.2.2) := hw
                  have hwr_9 := hw
                  have hwr_9 : S1_10 = wpF ((1 <<< ((nI i) &&& 31)) - 1) (nI i) (S.1, f_8, S.2.2.1, S.2.2.2) := hwr_9
                  exact W.vret hx hb hr (fun t ht hW => ⟨⟨S1_10, rfl, (by unfold wkF; subst hwr_9 ef_8 ek1; simp only [hp]; rw [if_neg (by omega)] <;> rfl), by show va_P _ _ _ t.heap; rw [ht]; exact hP.sub [0, 1, 2, 3] rfl⟩, hS.F ht⟩) hS.2.2 dX1_writeKind_79
                · skip
                  have c58 : ¬ 4 ≤ i := fun z => c58 ((nI_leI (a := 4) (b := i) (by omega) (by omega)).mpr z)
                  refine lv_aload_n hx hb dX1_writeKind_61 rfl (lv_at hl 2 rfl) ?_
                  refine lv_iload_n hx hb dX1_writeKind_62 rfl (lv_at hl 1 rfl) ?_
                  refine va_callv (va_runV (As := [.int (nI i)]) (rest := []) ⟨hx, hb, hml, hown, hts⟩ (C_X1_putOnes l dC dI cI cZ cP N0 tO w0 wR wK wM (S.1, f_8, S.2.2.1, S.2.2.2) (nI i) (show S.2.2.2 < 2000000 by omega) (by rw [ti_n1 (by omega)]; omega) (by rw [ti_n1 (by omega)]; omega)) (cwV 1 hts gX1_writeKind_X1_putOnes rfl rfl rfl (by decide +kernel) ⟨Nat.le_of_ble_eq_true rfl, Nat.le_of_ble_eq_true rfl⟩) ⟨Gv.blind, va_recv hK hP (ci := 1) (q0 := 0) rfl rfl, Gv.of (hE.S hS hAN) ⟨(hP.sub [0, 1, 2, 3] rfl), hN.sub [0, 1, 2, 3] (by decide) rfl⟩⟩ rfl rfl hl.1 rfl (lv_room (Nat.le_of_ble_eq_true rfl)) dX1_writeKind_63 ⟨Nat.le_of_ble_eq_true rfl, Nat.le_of_ble_eq_true rfl⟩) hS (fun q _ h => inL_sub [0, 1, 2, 3] rfl q h) (inL_sub [0, 1, 2, 3] rfl) (fun u t H locs ht hvm hw hB hz1 hk1 hS => ?_)
                  obtain ⟨S1_12, eu⟩ : ∃ z, z = u := ⟨_, rfl⟩
                  subst eu
                  rw [ht] at hB
                  have hP := va_back (L := [w0, wR, wK, wM]) hP hN rfl [0, 1, 2, 3] rfl rfl (fun q h1 h2 => hk1 q h1 h2) hB
                  clear hB hk1 hz1 hvm ht t
                  have hP : va_P (dC, dI) vwCl [(w0, .inr (1, [.ref wR, .ref wK, .ref wM, .int (nI S1_12.2.2.2)])), (wR, .inl (cI, 2487, .inl S1_12.1)), (wK, .inl (cI, 5, .inl S1_12.2.1)), (wM, .inl (cI, 3, .inl S1_12.2.2.1))] H := hP
                  have hw : S1_12 = poF (nI i) (S.1, f_8, S.2.2.1, S.2.2.2) := hw
                  have hwr_11 := hw
                  have hwr_11 : S1_12 = poF (nI i) (S.1, f_8, S.2.2.1, S.2.2.2) := hwr_11
                  refine lv_goto (tgt := 79) hx hb dX1_writeKind_66 (by decide) ?_
                  exact W.vret hx hb hr (fun t ht hW => ⟨⟨S1_12, rfl, (by unfold wkF; subst hwr_11 ef_8 ek1; simp only [hp]; rw [if_pos (by omega)] <;> rfl), by show va_P _ _ _ t.heap; rw [ht]; exact hP.sub [0, 1, 2, 3] rfl⟩, hS.F ht⟩) hS.2.2 dX1_writeKind_79
              · skip
                have c26 : ¬ bh ≤ 0 := fun z => c26 ((nI_leI (a := bh) (b := 0) (by omega) (by omega)).mpr z)
                refine lv_aload_n hx hb dX1_writeKind_29 rfl (lv_at hl 2 rfl) ?_
                refine va_get (D := (dC, dI)) (ci := 1) (v := .ref wK) (C := RX1) (T := TX1) (N := 4) hx hb hts hinX1 hown hK hP 0 rfl rfl 1 (by decide) (hts (.fieldLink RX1 15 "GreyReel$PacketWriter" "kindRow" "[I") (List.mem_of_getElem? (i := 1) (by decide +kernel))) (fun _ h9 => h9) rfl dX1_writeKind_30 ?_
                refine lv_iload_n hx hb dX1_writeKind_33 rfl (lv_at hl 0 rfl) ?_
                refine lv_aload_n hx hb dX1_writeKind_34 rfl (lv_at hl 2 rfl) ?_
                refine va_get (D := (dC, dI)) (ci := 1) (v := .ref wK) (C := RX1) (T := TX1) (N := 4) hx hb hts hinX1 hown hK hP 0 rfl rfl 1 (by decide) (hts (.fieldLink RX1 15 "GreyReel$PacketWriter" "kindRow" "[I") (List.mem_of_getElem? (i := 1) (by decide +kernel))) (fun _ h9 => h9) rfl dX1_writeKind_35 ?_
                refine lv_iload_n hx hb dX1_writeKind_38 rfl (lv_at hl 0 rfl) ?_
                refine lv_iconst (v := 1) hx hb dX1_writeKind_39 (by decide) ?_
                refine lv_isub hx hb dX1_writeKind_40 ?_
                refine lv_topr (show _ = nI (bh - 1) from pk_sub (a := bh) (b := 1) (by omega)) ?_
                refine wa_iald (D := (dC, dI)) (i := (bh - 1)) (f := k1) hx hb hK hP 2 0 rfl rfl (by omega) (by omega) dX1_writeKind_41 ?_
                refine lv_topi (fun x_13 ex_13 => ?_)
                refine wa_iast (D := (dC, dI)) (i := bh) (f := k1) hx hb hK hP (hN.D rfl) hS (List.mem_of_getElem? (i := 2) rfl) 2 0 rfl rfl (by omega) (by omega) dX1_writeKind_42 (fun H locs hP hS => ?_)
                obtain ⟨f_14, ef_14⟩ : ∃ z, z = upd k1 bh x_13 := ⟨_, rfl⟩
                rw [← ef_14] at hP
                have hP : va_P (dC, dI) vwCl [(w0, .inr (1, [.ref wR, .ref wK, .ref wM, .int (nI S.2.2.2)])), (wR, .inl (cI, 2487, .inl S.1)), (wK, .inl (cI, 5, .inl f_14)), (wM, .inl (cI, 3, .inl S.2.2.1))] H := hP
                refine lv_iinc (v := nI (bh - 1)) (lv' := [(3, .int (nI (bh - 1))), (2, .int (nI i)), (0, .ref w0), (1, .int (nI kd))]) hx hb dX1_writeKind_43 hl (k := 0) rfl (nI_dec (by omega)) (by decide) rfl (fun ls hl => ?_)
                refine lv_goto (tgt := 25) hx hb dX1_writeKind_46 (by decide) ?_
                exact ih25 (bh - 1) f_14 (by omega) (by omega) (by rw [ef_14, ex_13, ek1]; exact shK_d _ (by omega) (by omega) (shK_lt _ (by omega))) _ _ _ hP hS (lv_sub hl [0, 1, 2, 3] rfl)
          exact L25 (i + 1) i S.2.1 (by omega) (Nat.lt_succ_self _) (shK_0 _ _).symm _ _ _ hP hS (lv_sub hl [0, 1, 2, 3] rfl)
        · skip
          refine lv_iinc (v := nI (i + 1)) (lv' := [(2, .int (nI (i + 1))), (0, .ref w0), (1, .int (nI kd))]) hx hb dX1_writeKind_17 hl (k := 0) rfl (show nI i + Int32.ofInt 1 = nI (i + 1) from nI_add _ _) (by decide) rfl (fun ls hl => ?_)
          refine lv_goto (tgt := 2) hx hb dX1_writeKind_20 (by decide) ?_
          exact ih2 (i + 1) (pS_s hi (by omega) c14) (by omega) (by omega) _ _ _ hP hS (lv_sub hl [0, 1, 2] rfl)
  exact L2 (4 + 1) 0 rfl (by omega) (Nat.lt_succ_self _) _ _ _ hP hS (lv_sub hl [0, 1, 2] rfl)
set_option maxHeartbeats 4000000 in
set_option maxRecDepth 100000 in
theorem C_X1_writeSigned (l : Launch) (dC : Nat → ClassId) (dI : Nat → Nat → Nat) (cI cZ cP : ClassId) (N0 tO : Nat) (w0 wR wK wM : Nat) (S : WST) (num : Int32) (hnb : S.2.2.2 < 1000000) : Met l yX1_writeSigned wsX1_writeSigned ({ frames := 1, cells := 0, slots := 0, locals := 24 } : Room) (Gv (dC, dI) cI cZ cP N0 tO [.ref w0, .int num] (fun H => va_P (dC, dI) vwCl [(w0, .inr (1, [.ref wR, .ref wK, .ref wM, .int (nI S.2.2.2)])), (wR, .inl (cI, 2487, .inl S.1)), (wK, .inl (cI, 5, .inl S.2.1)), (wM, .inl (cI, 3, .inl S.2.2.1))] H ∧ AD N0 [w0, wR, wK, wM])) (va_Qv (fun (S1 : WST) => S1 = wsF num S) (fun (S1 : WST) (t : State) => va_P (dC, dI) vwCl [(w0, .inr (1, [.ref wR, .ref wK, .ref wM, .int (nI S1.2.2.2)])), (wR, .inl (cI, 2487, .inl S1.1)), (wK, .inl (cI, 5, .inl S1.2.1)), (wM, .inl (cI, 3, .inl S1.2.2.1))] t.heap) (inL [w0, wR, wK, wM])) 0 0 (inL [w0, wR, wK, wM]) := by
  refine Met.ofW (cc := cX1_writeSigned) (maxL := 4) (ret := none) (by decide) rfl ?_
  intro p e s m args below meth c s₁ B hml hv
  obtain ⟨rfl, hE, hP, hN⟩ := hv
  have hx := B.exec
  have hb := B.bytes
  have hr := B.returns
  have hts := atoms_spec (ws := wsX1_writeSigned) B.pre
  have hown : s.vm.findClass RX1 = some m.cls := findClass_of_methodNamed B.named
  have hlocks := B.notSynchronized
  have hK := hE.1
  have hNS := hE.2.1
  have hS : va_S (inL [w0, wR, wK, wM]) s.heap s.heap [] := va_S.rf
  have hAN : ∀ q : Nat, (inL [w0, wR, wK, wM]) q → N0 ≤ q := fun q h => hN.in [0, 1, 2, 3] rfl q h
  have hP : va_P (dC, dI) vwCl [(w0, .inr (1, [.ref wR, .ref wK, .ref wM, .int (nI S.2.2.2)])), (wR, .inl (cI, 2487, .inl S.1)), (wK, .inl (cI, 5, .inl S.2.1)), (wM, .inl (cI, 3, .inl S.2.2.1))] s.heap := hP
  have hl := lv_entry ([.ref w0, .int num]) (n := 4) (Nat.le_of_ble_eq_true rfl)
  rw [lg_entry_eq]
  generalize (lg_sl ([.ref w0, .int num]) ++ List.replicate (4 - (lg_sl ([.ref w0, .int num])).length) Slot.unset).toArray = ls at hl ⊢
  have hl : lv_has ls 4 [(0, .ref w0), (1, .int num)] := hl
  refine lv_iload_n hx hb dX1_writeSigned_0 rfl (lv_at hl 1 rfl) ?_
  refine vp_callSi (va_Run.run (va_runSN (As := [.int num]) (rest := []) ⟨hx, hb, hml, hown, hts⟩ (C_X5_folded l dC dI cI cZ cP N0 tO num ) ⟨va_cnB 1 hts gX1_writeSigned_X5_folded_n104 rfl rfl rfl hNS.2.2.1.1 (hts (.initialized RX5) (List.mem_of_getElem? (i := 2) (by decide +kernel))) (by decide +kernel) ⟨Nat.le_of_ble_eq_true rfl, Nat.le_of_ble_eq_true rfl⟩, (hts (.static yX5_folded) (List.mem_of_getElem? (i := 1) (by decide +kernel))), trivial⟩ ⟨Gv.blind, Gv.of (hE.S hS hAN) trivial⟩ rfl rfl hl.1 rfl (lv_room (Nat.le_of_ble_eq_true rfl)) dX1_writeSigned_1 ⟨Nat.le_of_ble_eq_true rfl, Nat.le_of_ble_eq_true rfl⟩)) (fun r_1 hr_1 => ?_)
  have hr_1 : r_1 = foldedI num := hr_1
  refine lv_topr (show _ = foldedI num from hr_1) ?_
  refine lv_iconst (v := 1) hx hb dX1_writeSigned_4 (by decide) ?_
  refine lv_iadd hx hb dX1_writeSigned_5 ?_
  refine lv_istore_n (lv' := [(2, .int ((foldedI num) + 1)), (0, .ref w0), (1, .int num)]) hx hb dX1_writeSigned_6 rfl hl (by decide) rfl (fun ls hl => ?_)
  refine lv_iconst (v := 1) hx hb dX1_writeSigned_7 (by decide) ?_
  refine lv_istore_n (lv' := [(3, .int 1), (2, .int ((foldedI num) + 1)), (0, .ref w0), (1, .int num)]) hx hb dX1_writeSigned_8 rfl hl (by decide) rfl (fun ls hl => ?_)
  have L9 : ∀ (n9 : Nat) (i : Nat), (gS (foldedI num + 1) i = i + 1) → (i ≤ 15) → 15 - i < n9 → ∀ (H : Heap) (locs : List Loc) (ls : Array Slot), va_P (dC, dI) vwCl [(w0, .inr (1, [.ref wR, .ref wK, .ref wM, .int (nI S.2.2.2)])), (wR, .inl (cI, 2487, .inl S.1)), (wK, .inl (cI, 5, .inl S.2.1)), (wM, .inl (cI, 3, .inl S.2.2.1))] H → va_S (inL [w0, wR, wK, wM]) s.heap H locs → lv_has ls 4 [(3, .int (nI (i + 1))), (2, .int ((foldedI num) + 1)), (0, .ref w0), (1, .int num)] → W p l e (headSpec wsX1_writeSigned ({ frames := 1, cells := 0, slots := 0, locals := 24 } : Room)).room s m ([.ref w0, .int num] : List Value).toArray below meth c H locs 0 0 (MQ below (va_Qv (fun (S1 : WST) => S1 = wsF num S) (fun (S1 : WST) (t : State) => va_P (dC, dI) vwCl [(w0, .inr (1, [.ref wR, .ref wK, .ref wM, .int (nI S1.2.2.2)])), (wR, .inl (cI, 2487, .inl S1.1)), (wK, .inl (cI, 5, .inl S1.2.1)), (wM, .inl (cI, 3, .inl S1.2.2.1))] t.heap) (inL [w0, wR, wK, wM])) ([.ref w0, .int num] : List Value).toArray s 0 0 (inL [w0, wR, wK, wM])) (F0 m 9 ls []) := by
    intro n9
    induction n9 with
    | zero => intro i hi hi4 hz; exact absurd hz (Nat.not_lt_zero _)
    | succ n9 ih9 =>
      intro i hi hi4 hfu H locs ls hP hS hl
      refine lv_iload_n hx hb dX1_writeSigned_9 rfl (lv_at hl 0 rfl) ?_
      refine lv_bipush (v := 16) hx hb dX1_writeSigned_10 (by decide +kernel) ?_
      refine lv_icmp_ge (tgt := 27) hx hb dX1_writeSigned_12 (by decide) (fun c12 => ?_) (fun c12 => ?_)
      · skip
        have c12 : 16 ≤ (i + 1) := (nI_leI (a := 16) (b := (i + 1)) (by omega) (by omega)).mp c12
        have hp : gF (foldedI num + 1) = i + 1 := gS_end hi (by omega) hi4
        refine lv_aload_n hx hb dX1_writeSigned_27 rfl (lv_at hl 2 rfl) ?_
        refine lv_iload_n hx hb dX1_writeSigned_28 rfl (lv_at hl 1 rfl) ?_
        refine lv_iconst (v := 2) hx hb dX1_writeSigned_29 (by decide) ?_
        refine lv_iload_n hx hb dX1_writeSigned_30 rfl (lv_at hl 0 rfl) ?_
        refine lv_imul hx hb dX1_writeSigned_31 ?_
        refine lv_topr (show _ = nI (2 * (i + 1)) from pk_mul 2 (i + 1)) ?_
        refine lv_iconst (v := 1) hx hb dX1_writeSigned_32 (by decide) ?_
        refine lv_isub hx hb dX1_writeSigned_33 ?_
        refine lv_topr (show _ = nI ((2 * (i + 1)) - 1) from pk_sub (a := (2 * (i + 1))) (b := 1) (by omega)) ?_
        refine va_callv (va_runV (As := [.int ((foldedI num) + 1), .int (nI ((2 * (i + 1)) - 1))]) (rest := []) ⟨hx, hb, hml, hown, hts⟩ (C_X1_put l dC dI cI cZ cP N0 tO w0 wR wK wM S ((foldedI num) + 1) (nI ((2 * (i + 1)) - 1)) (by omega) (by rw [nI_toInt (by omega)]; omega) (by rw [nI_toInt (by omega)]; omega)) (cwV 2 hts gX1_writeSigned_X1_put rfl rfl rfl (by decide +kernel) ⟨Nat.le_of_ble_eq_true rfl, Nat.le_of_ble_eq_true rfl⟩) ⟨Gv.blind, va_recv hK hP (ci := 1) (q0 := 0) rfl rfl, Gv.of (hE.S hS hAN) ⟨(hP.sub [0, 1, 2, 3] rfl), hN.sub [0, 1, 2, 3] (by decide) rfl⟩⟩ rfl rfl hl.1 rfl (lv_room (Nat.le_of_ble_eq_true rfl)) dX1_writeSigned_34 ⟨Nat.le_of_ble_eq_true rfl, Nat.le_of_ble_eq_true rfl⟩) hS (fun q _ h => inL_sub [0, 1, 2, 3] rfl q h) (inL_sub [0, 1, 2, 3] rfl) (fun u t H locs ht hvm hw hB hz1 hk1 hS => ?_)
        obtain ⟨S1_3, eu⟩ : ∃ z, z = u := ⟨_, rfl⟩
        subst eu
        rw [ht] at hB
        have hP := va_back (L := [w0, wR, wK, wM]) hP hN rfl [0, 1, 2, 3] rfl rfl (fun q h1 h2 => hk1 q h1 h2) hB
        clear hB hk1 hz1 hvm ht t
        have hP : va_P (dC, dI) vwCl [(w0, .inr (1, [.ref wR, .ref wK, .ref wM, .int (nI S1_3.2.2.2)])), (wR, .inl (cI, 2487, .inl S1_3.1)), (wK, .inl (cI, 5, .inl S1_3.2.1)), (wM, .inl (cI, 3, .inl S1_3.2.2.1))] H := hP
        have hw : S1_3 = wpF ((foldedI num) + 1) (nI ((2 * (i + 1)) - 1)) S := hw
        have hwr_2 := hw
        have hwr_2 : S1_3 = wpF ((foldedI num) + 1) (nI ((2 * (i + 1)) - 1)) S := hwr_2
        exact W.vret hx hb hr (fun t ht hW => ⟨⟨S1_3, rfl, (by unfold wsF; rw [hp]; exact hwr_2), by show va_P _ _ _ t.heap; rw [ht]; exact hP.sub [0, 1, 2, 3] rfl⟩, hS.F ht⟩) hS.2.2 dX1_writeSigned_37
      · skip
        have c12 : ¬ 16 ≤ (i + 1) := fun z => c12 ((nI_leI (a := 16) (b := (i + 1)) (by omega) (by omega)).mpr z)
        refine lv_iload_n hx hb dX1_writeSigned_15 rfl (lv_at hl 1 rfl) ?_
        refine lv_iload_n hx hb dX1_writeSigned_16 rfl (lv_at hl 0 rfl) ?_
        refine lv_ishr hx hb dX1_writeSigned_17 ?_
        refine lv_if_le (tgt := 27) hx hb dX1_writeSigned_18 (by decide) (fun c18 => ?_) (fun c18 => ?_)
        · skip
          have hp : gF (foldedI num + 1) = i + 1 := gS_fin hi hi4 c18
          refine lv_aload_n hx hb dX1_writeSigned_27 rfl (lv_at hl 2 rfl) ?_
          refine lv_iload_n hx hb dX1_writeSigned_28 rfl (lv_at hl 1 rfl) ?_
          refine lv_iconst (v := 2) hx hb dX1_writeSigned_29 (by decide) ?_
          refine lv_iload_n hx hb dX1_writeSigned_30 rfl (lv_at hl 0 rfl) ?_
          refine lv_imul hx hb dX1_writeSigned_31 ?_
          refine lv_topr (show _ = nI (2 * (i + 1)) from pk_mul 2 (i + 1)) ?_
          refine lv_iconst (v := 1) hx hb dX1_writeSigned_32 (by decide) ?_
          refine lv_isub hx hb dX1_writeSigned_33 ?_
          refine lv_topr (show _ = nI ((2 * (i + 1)) - 1) from pk_sub (a := (2 * (i + 1))) (b := 1) (by omega)) ?_
          refine va_callv (va_runV (As := [.int ((foldedI num) + 1), .int (nI ((2 * (i + 1)) - 1))]) (rest := []) ⟨hx, hb, hml, hown, hts⟩ (C_X1_put l dC dI cI cZ cP N0 tO w0 wR wK wM S ((foldedI num) + 1) (nI ((2 * (i + 1)) - 1)) (by omega) (by rw [nI_toInt (by omega)]; omega) (by rw [nI_toInt (by omega)]; omega)) (cwV 2 hts gX1_writeSigned_X1_put rfl rfl rfl (by decide +kernel) ⟨Nat.le_of_ble_eq_true rfl, Nat.le_of_ble_eq_true rfl⟩) ⟨Gv.blind, va_recv hK hP (ci := 1) (q0 := 0) rfl rfl, Gv.of (hE.S hS hAN) ⟨(hP.sub [0, 1, 2, 3] rfl), hN.sub [0, 1, 2, 3] (by decide) rfl⟩⟩ rfl rfl hl.1 rfl (lv_room (Nat.le_of_ble_eq_true rfl)) dX1_writeSigned_34 ⟨Nat.le_of_ble_eq_true rfl, Nat.le_of_ble_eq_true rfl⟩) hS (fun q _ h => inL_sub [0, 1, 2, 3] rfl q h) (inL_sub [0, 1, 2, 3] rfl) (fun u t H locs ht hvm hw hB hz1 hk1 hS => ?_)
          obtain ⟨S1_5, eu⟩ : ∃ z, z = u := ⟨_, rfl⟩
          subst eu
          rw [ht] at hB
          have hP := va_back (L := [w0, wR, wK, wM]) hP hN rfl [0, 1, 2, 3] rfl rfl (fun q h1 h2 => hk1 q h1 h2) hB
          clear hB hk1 hz1 hvm ht t
          have hP : va_P (dC, dI) vwCl [(w0, .inr (1, [.ref wR, .ref wK, .ref wM, .int (nI S1_5.2.2.2)])), (wR, .inl (cI, 2487, .inl S1_5.1)), (wK, .inl (cI, 5, .inl S1_5.2.1)), (wM, .inl (cI, 3, .inl S1_5.2.2.1))] H := hP
          have hw : S1_5 = wpF ((foldedI num) + 1) (nI ((2 * (i + 1)) - 1)) S := hw
          have hwr_4 := hw
          have hwr_4 : S1_5 = wpF ((foldedI num) + 1) (nI ((2 * (i + 1)) - 1)) S := hwr_4
          exact W.vret hx hb hr (fun t ht hW => ⟨⟨S1_5, rfl, (by unfold wsF; rw [hp]; exact hwr_4), by show va_P _ _ _ t.heap; rw [ht]; exact hP.sub [0, 1, 2, 3] rfl⟩, hS.F ht⟩) hS.2.2 dX1_writeSigned_37
        · skip
          refine lv_iinc (v := nI (i + 1 + 1)) (lv' := [(3, .int (nI (i + 1 + 1))), (2, .int ((foldedI num) + 1)), (0, .ref w0), (1, .int num)]) hx hb dX1_writeSigned_21 hl (k := 0) rfl (show nI (i + 1) + Int32.ofInt 1 = nI (i + 1 + 1) from nI_add _ _) (by decide) rfl (fun ls hl => ?_)
          refine lv_goto (tgt := 9) hx hb dX1_writeSigned_24 (by decide) ?_
          exact ih9 (i + 1) (gS_s hi (by omega) c18) (by omega) (by omega) _ _ _ hP hS (lv_sub hl [0, 1, 2, 3] rfl)
  exact L9 (15 + 1) 0 rfl (by omega) (Nat.lt_succ_self _) _ _ _ hP hS (lv_sub hl [0, 1, 2, 3] rfl)
set_option maxHeartbeats 4000000 in
set_option maxRecDepth 100000 in
theorem C_X1_writeLevels (l : Launch) (dC : Nat → ClassId) (dI : Nat → Nat → Nat) (cI cZ cP : ClassId) (N0 tO : Nat) (w0 wR wK wM : Nat) (S : WST) (hV : Nat) (fv : Nat → Int32) (a : Nat) (hnb : S.2.2.2 < 950000) (h1 : a + 16 ≤ 768) : Met l yX1_writeLevels wsX1_writeLevels ({ frames := 3, cells := 0, slots := 0, locals := 68 } : Room) (Gv (dC, dI) cI cZ cP N0 tO [.ref w0, .ref hV, .int (nI a)] (fun H => va_P (dC, dI) vwCl [(w0, .inr (1, [.ref wR, .ref wK, .ref wM, .int (nI S.2.2.2)])), (wR, .inl (cI, 2487, .inl S.1)), (wK, .inl (cI, 5, .inl S.2.1)), (wM, .inl (cI, 3, .inl S.2.2.1)), (hV, .inl (cI, 768, .inl fv))] H ∧ AD N0 [w0, wR, wK, wM, hV])) (va_Qv (fun (S1 : WST) => S1 = wlF fv a S) (fun (S1 : WST) (t : State) => va_P (dC, dI) vwCl [(w0, .inr (1, [.ref wR, .ref wK, .ref wM, .int (nI S1.2.2.2)])), (wR, .inl (cI, 2487, .inl S1.1)), (wK, .inl (cI, 5, .inl S1.2.1)), (wM, .inl (cI, 3, .inl S1.2.2.1))] t.heap) (inL [w0, wR, wK, wM])) 0 0 (inL [w0, wR, wK, wM]) := by
  refine Met.ofW (cc := cX1_writeLevels) (maxL := 6) (ret := none) (by decide) rfl ?_
  intro p e s m args below meth c s₁ B hml hv
  obtain ⟨rfl, hE, hP, hN⟩ := hv
  have hx := B.exec
  have hb := B.bytes
  have hr := B.returns
  have hts := atoms_spec (ws := wsX1_writeLevels) B.pre
  have hown : s.vm.findClass RX1 = some m.cls := findClass_of_methodNamed B.named
  have hlocks := B.notSynchronized
  have hK := hE.1
  have hNS := hE.2.1
  have hS : va_S (inL [w0, wR, wK, wM]) s.heap s.heap [] := va_S.rf
  have hAN : ∀ q : Nat, (inL [w0, wR, wK, wM]) q → N0 ≤ q := fun q h => hN.in [0, 1, 2, 3] rfl q h
  have hP : va_P (dC, dI) vwCl [(w0, .inr (1, [.ref wR, .ref wK, .ref wM, .int (nI S.2.2.2)])), (wR, .inl (cI, 2487, .inl S.1)), (wK, .inl (cI, 5, .inl S.2.1)), (wM, .inl (cI, 3, .inl S.2.2.1)), (hV, .inl (cI, 768, .inl fv))] s.heap := hP
  have hl := lv_entry ([.ref w0, .ref hV, .int (nI a)]) (n := 6) (Nat.le_of_ble_eq_true rfl)
  rw [lg_entry_eq]
  generalize (lg_sl ([.ref w0, .ref hV, .int (nI a)]) ++ List.replicate (6 - (lg_sl ([.ref w0, .ref hV, .int (nI a)])).length) Slot.unset).toArray = ls at hl ⊢
  have hl : lv_has ls 6 [(0, .ref w0), (1, .ref hV), (2, .int (nI a))] := hl
  refine lv_bipush (v := 16) hx hb dX1_writeLevels_0 (by decide +kernel) ?_
  refine lv_istore_n (lv' := [(3, .int 16), (0, .ref w0), (1, .ref hV), (2, .int (nI a))]) hx hb dX1_writeLevels_2 rfl hl (by decide) rfl (fun ls hl => ?_)
  have L3 : ∀ (n3 : Nat) (cn : Nat), (cS fv a 16 = cS fv a cn) → (cn ≤ 16) → cn < n3 → ∀ (H : Heap) (locs : List Loc) (ls : Array Slot), va_P (dC, dI) vwCl [(w0, .inr (1, [.ref wR, .ref wK, .ref wM, .int (nI S.2.2.2)])), (wR, .inl (cI, 2487, .inl S.1)), (wK, .inl (cI, 5, .inl S.2.1)), (wM, .inl (cI, 3, .inl S.2.2.1)), (hV, .inl (cI, 768, .inl fv))] H → va_S (inL [w0, wR, wK, wM]) s.heap H locs → lv_has ls 6 [(3, .int (nI cn)), (0, .ref w0), (1, .ref hV), (2, .int (nI a))] → W p l e (headSpec wsX1_writeLevels ({ frames := 3, cells := 0, slots := 0, locals := 68 } : Room)).room s m ([.ref w0, .ref hV, .int (nI a)] : List Value).toArray below meth c H locs 0 0 (MQ below (va_Qv (fun (S1 : WST) => S1 = wlF fv a S) (fun (S1 : WST) (t : State) => va_P (dC, dI) vwCl [(w0, .inr (1, [.ref wR, .ref wK, .ref wM, .int (nI S1.2.2.2)])), (wR, .inl (cI, 2487, .inl S1.1)), (wK, .inl (cI, 5, .inl S1.2.1)), (wM, .inl (cI, 3, .inl S1.2.2.1))] t.heap) (inL [w0, wR, wK, wM])) ([.ref w0, .ref hV, .int (nI a)] : List Value).toArray s 0 0 (inL [w0, wR, wK, wM])) (F0 m 3 ls []) := by
    intro n3
    induction n3 with
    | zero => intro cn hc hc16 hz; exact absurd hz (Nat.not_lt_zero _)
    | succ n3 ih3 =>
      intro cn hc hc16 hfu H locs ls hP hS hl
      refine lv_iload_n hx hb dX1_writeLevels_3 rfl (lv_at hl 0 rfl) ?_
      refine lv_if_le (tgt := 23) hx hb dX1_writeLevels_4 (by decide) (fun c4 => ?_) (fun c4 => ?_)
      · skip
        have c4 : cn ≤ 0 := (nI_leI (a := cn) (b := 0) (by omega) (by omega)).mp c4
        have hcc : cS fv a 16 = cn := hc.trans (cS_0 (by omega))
        refine lv_aload_n hx hb dX1_writeLevels_23 rfl (lv_at hl 1 rfl) ?_
        refine lv_iload_n hx hb dX1_writeLevels_24 rfl (lv_at hl 0 rfl) ?_
        refine lv_iconst (v := 0) hx hb dX1_writeLevels_25 (by decide) ?_
        refine va_callv (va_runV (As := [.int (nI cn), .int 0]) (rest := []) ⟨hx, hb, hml, hown, hts⟩ (C_X1_writeNumber l dC dI cI cZ cP N0 tO w0 wR wK wM S (nI cn) 0 (by omega) (by omega)) (cwV 2 hts gX1_writeLevels_X1_writeNumber rfl rfl rfl (by decide +kernel) ⟨Nat.le_of_ble_eq_true rfl, Nat.le_of_ble_eq_true rfl⟩) ⟨Gv.blind, va_recv hK hP (ci := 1) (q0 := 0) rfl rfl, Gv.of (hE.S hS hAN) ⟨(hP.sub [0, 1, 2, 3] rfl), hN.sub [0, 1, 2, 3] (by decide) rfl⟩⟩ rfl rfl hl.1 rfl (lv_room (Nat.le_of_ble_eq_true rfl)) dX1_writeLevels_26 ⟨Nat.le_of_ble_eq_true rfl, Nat.le_of_ble_eq_true rfl⟩) hS (fun q _ h => inL_sub [0, 1, 2, 3] rfl q h) (inL_sub [0, 1, 2, 3] rfl) (fun u t H locs ht hvm hw hB hz1 hk1 hS => ?_)
        obtain ⟨S1_2, eu⟩ : ∃ z, z = u := ⟨_, rfl⟩
        subst eu
        rw [ht] at hB
        have hP := va_back (L := [w0, wR, wK, wM]) hP hN rfl [0, 1, 2, 3] rfl rfl (fun q h1 h2 => hk1 q h1 h2) hB
        clear hB hk1 hz1 hvm ht t
        have hP : va_P (dC, dI) vwCl [(w0, .inr (1, [.ref wR, .ref wK, .ref wM, .int (nI S1_2.2.2.2)])), (wR, .inl (cI, 2487, .inl S1_2.1)), (wK, .inl (cI, 5, .inl S1_2.2.1)), (wM, .inl (cI, 3, .inl S1_2.2.2.1)), (hV, .inl (cI, 768, .inl fv))] H := hP
        have hw : S1_2 = wnF (nI cn) 0 S := hw
        have hwr_1 := hw
        have hwr_1 : S1_2 = wnF (nI cn) 0 S := hwr_1
        refine lv_iconst (v := 0) hx hb dX1_writeLevels_29 (by decide) ?_
        refine lv_istore (lv' := [(4, .int 0), (3, .int (nI cn)), (0, .ref w0), (1, .ref hV), (2, .int (nI a))]) hx hb dX1_writeLevels_30 hl (by decide) rfl (fun ls hl => ?_)
        have L32 : ∀ (n32 : Nat) (i : Nat) (T : WST), (i ≤ cn) → (T = wlS fv a (wnF (nI cn) 0 S) i) → cn - i < n32 → ∀ (H : Heap) (locs : List Loc) (ls : Array Slot), va_P (dC, dI) vwCl [(w0, .inr (1, [.ref wR, .ref wK, .ref wM, .int (nI T.2.2.2)])), (wR, .inl (cI, 2487, .inl T.1)), (wK, .inl (cI, 5, .inl T.2.1)), (wM, .inl (cI, 3, .inl T.2.2.1)), (hV, .inl (cI, 768, .inl fv))] H → va_S (inL [w0, wR, wK, wM]) s.heap H locs → lv_has ls 6 [(4, .int (nI i)), (3, .int (nI cn)), (0, .ref w0), (1, .ref hV), (2, .int (nI a))] → W p l e (headSpec wsX1_writeLevels ({ frames := 3, cells := 0, slots := 0, locals := 68 } : Room)).room s m ([.ref w0, .ref hV, .int (nI a)] : List Value).toArray below meth c H locs 0 0 (MQ below (va_Qv (fun (S1 : WST) => S1 = wlF fv a S) (fun (S1 : WST) (t : State) => va_P (dC, dI) vwCl [(w0, .inr (1, [.ref wR, .ref wK, .ref wM, .int (nI S1.2.2.2)])), (wR, .inl (cI, 2487, .inl S1.1)), (wK, .inl (cI, 5, .inl S1.2.1)), (wM, .inl (cI, 3, .inl S1.2.2.1))] t.heap) (inL [w0, wR, wK, wM])) ([.ref w0, .ref hV, .int (nI a)] : List Value).toArray s 0 0 (inL [w0, wR, wK, wM])) (F0 m 32 ls []) := by
          intro n32
          induction n32 with
          | zero => intro i T hi hT hz; exact absurd hz (Nat.not_lt_zero _)
          | succ n32 ih32 =>
            intro i T hi hT hfu H locs ls hP hS hl
            have hTn := wlS_n fv a (wnF (nI cn) 0 S) i
            have hTn2 := wnF_n (nI cn) 0 S
            rw [← hT] at hTn
            refine lv_iload hx hb dX1_writeLevels_32 (lv_at hl 0 rfl) ?_
            refine lv_iload_n hx hb dX1_writeLevels_34 rfl (lv_at hl 1 rfl) ?_
            refine lv_icmp_ge (tgt := 71) hx hb dX1_writeLevels_35 (by decide) (fun c35 => ?_) (fun c35 => ?_)
            · skip
              have c35 : cn ≤ i := (nI_leI (a := cn) (b := i) (by omega) (by omega)).mp c35
              obtain rfl : i = cn := by omega
              exact W.vret hx hb hr (fun t ht hW => ⟨⟨T, rfl, (by unfold wlF; rw [hcc]; exact hT), by show va_P _ _ _ t.heap; rw [ht]; exact hP.sub [0, 1, 2, 3] rfl⟩, hS.F ht⟩) hS.2.2 dX1_writeLevels_71
            · skip
              have c35 : ¬ cn ≤ i := fun z => c35 ((nI_leI (a := cn) (b := i) (by omega) (by omega)).mpr z)
              refine lv_iload hx hb dX1_writeLevels_38 (lv_at hl 0 rfl) ?_
              refine lv_if_ne (tgt := 47) hx hb dX1_writeLevels_40 (by decide) (fun c40 => ?_) (fun c40 => ?_)
              · skip
                have c40 : ¬ i = 0 := fun z => c40 ((nI_eq (a := i) (b := 0) (by omega) (by omega)).mpr z)
                refine lv_iconst (v := 1) hx hb dX1_writeLevels_47 (by decide) ?_
                refine lv_istore (lv' := [(5, .int 1), (4, .int (nI i)), (3, .int (nI cn)), (0, .ref w0), (1, .ref hV), (2, .int (nI a))]) hx hb dX1_writeLevels_48 hl (by decide) rfl (fun ls hl => ?_)
                refine lv_aload_n hx hb dX1_writeLevels_50 rfl (lv_at hl 3 rfl) ?_
                refine lv_aload_n hx hb dX1_writeLevels_51 rfl (lv_at hl 4 rfl) ?_
                refine lv_iload_n hx hb dX1_writeLevels_52 rfl (lv_at hl 5 rfl) ?_
                refine lv_iload hx hb dX1_writeLevels_53 (lv_at hl 1 rfl) ?_
                refine lv_iadd hx hb dX1_writeLevels_55 ?_
                refine lv_topr (show _ = nI (a + i) from nI_add a i) ?_
                refine wa_iald (D := (dC, dI)) (i := (a + i)) (f := fv) hx hb hK hP 4 0 rfl rfl (by omega) (by omega) dX1_writeLevels_56 ?_
                refine vp_callSi (va_Run.run (va_runSN (As := [.int (fv (a + i))]) (rest := [.ref w0]) ⟨hx, hb, hml, hown, hts⟩ (C_X5_folded l dC dI cI cZ cP N0 tO (fv (a + i)) ) ⟨va_cnB 1 hts gX1_writeLevels_X5_folded_n104 rfl rfl rfl hNS.2.2.1.1 (hts (.initialized RX5) (List.mem_of_getElem? (i := 18) (by decide +kernel))) (by decide +kernel) ⟨Nat.le_of_ble_eq_true rfl, Nat.le_of_ble_eq_true rfl⟩, (hts (.static yX5_folded) (List.mem_of_getElem? (i := 17) (by decide +kernel))), trivial⟩ ⟨Gv.blind, Gv.of (hE.S hS hAN) trivial⟩ rfl rfl hl.1 rfl (lv_room (Nat.le_of_ble_eq_true rfl)) dX1_writeLevels_57 ⟨Nat.le_of_ble_eq_true rfl, Nat.le_of_ble_eq_true rfl⟩)) (fun r_3 hr_3 => ?_)
                have hr_3 : r_3 = foldedI (fv (a + i)) := hr_3
                refine lv_topr (show _ = foldedI (fv (a + i)) from hr_3) ?_
                refine lv_iload hx hb dX1_writeLevels_60 (lv_at hl 0 rfl) ?_
                refine va_callv (va_runV (As := [.int (foldedI (fv (a + i))), .int 1]) (rest := []) ⟨hx, hb, hml, hown, hts⟩ (C_X1_writeNumber l dC dI cI cZ cP N0 tO w0 wR wK wM T (foldedI (fv (a + i))) 1 (by omega) (by omega)) (cwV 2 hts gX1_writeLevels_X1_writeNumber rfl rfl rfl (by decide +kernel) ⟨Nat.le_of_ble_eq_true rfl, Nat.le_of_ble_eq_true rfl⟩) ⟨Gv.blind, va_recv hK hP (ci := 1) (q0 := 0) rfl rfl, Gv.of (hE.S hS hAN) ⟨(hP.sub [0, 1, 2, 3] rfl), hN.sub [0, 1, 2, 3] (by decide) rfl⟩⟩ rfl rfl hl.1 rfl (lv_room (Nat.le_of_ble_eq_true rfl)) dX1_writeLevels_62 ⟨Nat.le_of_ble_eq_true rfl, Nat.le_of_ble_eq_true rfl⟩) hS (fun q _ h => inL_sub [0, 1, 2, 3] rfl q h) (inL_sub [0, 1, 2, 3] rfl) (fun u t H locs ht hvm hw hB hz1 hk1 hS => ?_)
                obtain ⟨S1_5, eu⟩ : ∃ z, z = u := ⟨_, rfl⟩
                subst eu
                rw [ht] at hB
                have hP := va_back (L := [w0, wR, wK, wM]) hP hN rfl [0, 1, 2, 3] rfl rfl (fun q h1 h2 => hk1 q h1 h2) hB
                clear hB hk1 hz1 hvm ht t
                have hP : va_P (dC, dI) vwCl [(w0, .inr (1, [.ref wR, .ref wK, .ref wM, .int (nI S1_5.2.2.2)])), (wR, .inl (cI, 2487, .inl S1_5.1)), (wK, .inl (cI, 5, .inl S1_5.2.1)), (wM, .inl (cI, 3, .inl S1_5.2.2.1)), (hV, .inl (cI, 768, .inl fv))] H := hP
                have hw : S1_5 = wnF (foldedI (fv (a + i))) 1 T := hw
                have hwr_4 := hw
                have hwr_4 : S1_5 = wnF (foldedI (fv (a + i))) 1 T := hwr_4
                refine lv_iinc (v := nI (i + 1)) (lv' := [(4, .int (nI (i + 1))), (5, .int 1), (3, .int (nI cn)), (0, .ref w0), (1, .ref hV), (2, .int (nI a))]) hx hb dX1_writeLevels_65 hl (k := 1) rfl (show nI i + Int32.ofInt 1 = nI (i + 1) from nI_add _ _) (by decide) rfl (fun ls hl => ?_)
                refine lv_goto (tgt := 32) hx hb dX1_writeLevels_68 (by decide) ?_
                exact ih32 (i + 1) S1_5 (by omega) (by rw [hwr_4, hT]; show _ = wnF _ (if i = 0 then 2 else 1) _; rw [if_neg c40]) (by omega) _ _ _ hP hS (lv_sub hl [0, 2, 3, 4, 5] rfl)
              · skip
                have c40 : i = 0 := (nI_eq (a := i) (b := 0) (by omega) (by omega)).mp c40
                refine lv_iconst (v := 2) hx hb dX1_writeLevels_43 (by decide) ?_
                refine lv_goto (tgt := 48) hx hb dX1_writeLevels_44 (by decide) ?_
                refine lv_istore (lv' := [(5, .int 2), (4, .int (nI i)), (3, .int (nI cn)), (0, .ref w0), (1, .ref hV), (2, .int (nI a))]) hx hb dX1_writeLevels_48 hl (by decide) rfl (fun ls hl => ?_)
                refine lv_aload_n hx hb dX1_writeLevels_50 rfl (lv_at hl 3 rfl) ?_
                refine lv_aload_n hx hb dX1_writeLevels_51 rfl (lv_at hl 4 rfl) ?_
                refine lv_iload_n hx hb dX1_writeLevels_52 rfl (lv_at hl 5 rfl) ?_
                refine lv_iload hx hb dX1_writeLevels_53 (lv_at hl 1 rfl) ?_
                refine lv_iadd hx hb dX1_writeLevels_55 ?_
                refine lv_topr (show _ = nI (a + i) from nI_add a i) ?_
                refine wa_iald (D := (dC, dI)) (i := (a + i)) (f := fv) hx hb hK hP 4 0 rfl rfl (by omega) (by omega) dX1_writeLevels_56 ?_
                refine vp_callSi (va_Run.run (va_runSN (As := [.int (fv (a + i))]) (rest := [.ref w0]) ⟨hx, hb, hml, hown, hts⟩ (C_X5_folded l dC dI cI cZ cP N0 tO (fv (a + i)) ) ⟨va_cnB 1 hts gX1_writeLevels_X5_folded_n104 rfl rfl rfl hNS.2.2.1.1 (hts (.initialized RX5) (List.mem_of_getElem? (i := 18) (by decide +kernel))) (by decide +kernel) ⟨Nat.le_of_ble_eq_true rfl, Nat.le_of_ble_eq_true rfl⟩, (hts (.static yX5_folded) (List.mem_of_getElem? (i := 17) (by decide +kernel))), trivial⟩ ⟨Gv.blind, Gv.of (hE.S hS hAN) trivial⟩ rfl rfl hl.1 rfl (lv_room (Nat.le_of_ble_eq_true rfl)) dX1_writeLevels_57 ⟨Nat.le_of_ble_eq_true rfl, Nat.le_of_ble_eq_true rfl⟩)) (fun r_6 hr_6 => ?_)
                have hr_6 : r_6 = foldedI (fv (a + i)) := hr_6
                refine lv_topr (show _ = foldedI (fv (a + i)) from hr_6) ?_
                refine lv_iload hx hb dX1_writeLevels_60 (lv_at hl 0 rfl) ?_
                refine va_callv (va_runV (As := [.int (foldedI (fv (a + i))), .int 2]) (rest := []) ⟨hx, hb, hml, hown, hts⟩ (C_X1_writeNumber l dC dI cI cZ cP N0 tO w0 wR wK wM T (foldedI (fv (a + i))) 2 (by omega) (by omega)) (cwV 2 hts gX1_writeLevels_X1_writeNumber rfl rfl rfl (by decide +kernel) ⟨Nat.le_of_ble_eq_true rfl, Nat.le_of_ble_eq_true rfl⟩) ⟨Gv.blind, va_recv hK hP (ci := 1) (q0 := 0) rfl rfl, Gv.of (hE.S hS hAN) ⟨(hP.sub [0, 1, 2, 3] rfl), hN.sub [0, 1, 2, 3] (by decide) rfl⟩⟩ rfl rfl hl.1 rfl (lv_room (Nat.le_of_ble_eq_true rfl)) dX1_writeLevels_62 ⟨Nat.le_of_ble_eq_true rfl, Nat.le_of_ble_eq_true rfl⟩) hS (fun q _ h => inL_sub [0, 1, 2, 3] rfl q h) (inL_sub [0, 1, 2, 3] rfl) (fun u t H locs ht hvm hw hB hz1 hk1 hS => ?_)
                obtain ⟨S1_8, eu⟩ : ∃ z, z = u := ⟨_, rfl⟩
                subst eu
                rw [ht] at hB
                have hP := va_back (L := [w0, wR, wK, wM]) hP hN rfl [0, 1, 2, 3] rfl rfl (fun q h1 h2 => hk1 q h1 h2) hB
                clear hB hk1 hz1 hvm ht t
                have hP : va_P (dC, dI) vwCl [(w0, .inr (1, [.ref wR, .ref wK, .ref wM, .int (nI S1_8.2.2.2)])), (wR, .inl (cI, 2487, .inl S1_8.1)), (wK, .inl (cI, 5, .inl S1_8.2.1)), (wM, .inl (cI, 3, .inl S1_8.2.2.1)), (hV, .inl (cI, 768, .inl fv))] H := hP
                have hw : S1_8 = wnF (foldedI (fv (a + i))) 2 T := hw
                have hwr_7 := hw
                have hwr_7 : S1_8 = wnF (foldedI (fv (a + i))) 2 T := hwr_7
                refine lv_iinc (v := nI (i + 1)) (lv' := [(4, .int (nI (i + 1))), (5, .int 2), (3, .int (nI cn)), (0, .ref w0), (1, .ref hV), (2, .int (nI a))]) hx hb dX1_writeLevels_65 hl (k := 1) rfl (show nI i + Int32.ofInt 1 = nI (i + 1) from nI_add _ _) (by decide) rfl (fun ls hl => ?_)
                refine lv_goto (tgt := 32) hx hb dX1_writeLevels_68 (by decide) ?_
                exact ih32 (i + 1) S1_8 (by omega) (by rw [hwr_7, hT]; show _ = wnF _ (if i = 0 then 2 else 1) _; rw [if_pos c40]) (by omega) _ _ _ hP hS (lv_sub hl [0, 2, 3, 4, 5] rfl)
        exact L32 (cn + 1) 0 S1_2 (by omega) (hwr_1) (Nat.lt_succ_self _) _ _ _ hP hS (lv_sub hl [0, 1, 2, 3, 4] rfl)
      · skip
        have c4 : ¬ cn ≤ 0 := fun z => c4 ((nI_leI (a := cn) (b := 0) (by omega) (by omega)).mpr z)
        refine lv_aload_n hx hb dX1_writeLevels_7 rfl (lv_at hl 2 rfl) ?_
        refine lv_iload_n hx hb dX1_writeLevels_8 rfl (lv_at hl 3 rfl) ?_
        refine lv_iload_n hx hb dX1_writeLevels_9 rfl (lv_at hl 0 rfl) ?_
        refine lv_iadd hx hb dX1_writeLevels_10 ?_
        refine lv_topr (show _ = nI (a + cn) from nI_add a cn) ?_
        refine lv_iconst (v := 1) hx hb dX1_writeLevels_11 (by decide) ?_
        refine lv_isub hx hb dX1_writeLevels_12 ?_
        refine lv_topr (show _ = nI ((a + cn) - 1) from pk_sub (a := (a + cn)) (b := 1) (by omega)) ?_
        refine wa_iald (D := (dC, dI)) (i := ((a + cn) - 1)) (f := fv) hx hb hK hP 4 0 rfl rfl (by omega) (by omega) dX1_writeLevels_13 ?_
        refine lv_if_ne (tgt := 23) hx hb dX1_writeLevels_14 (by decide) (fun c14 => ?_) (fun c14 => ?_)
        · skip
          have hcc : cS fv a 16 = cn := by rw [hc]; exact cS_end (by omega) c14
          refine lv_aload_n hx hb dX1_writeLevels_23 rfl (lv_at hl 1 rfl) ?_
          refine lv_iload_n hx hb dX1_writeLevels_24 rfl (lv_at hl 0 rfl) ?_
          refine lv_iconst (v := 0) hx hb dX1_writeLevels_25 (by decide) ?_
          refine va_callv (va_runV (As := [.int (nI cn), .int 0]) (rest := []) ⟨hx, hb, hml, hown, hts⟩ (C_X1_writeNumber l dC dI cI cZ cP N0 tO w0 wR wK wM S (nI cn) 0 (by omega) (by omega)) (cwV 2 hts gX1_writeLevels_X1_writeNumber rfl rfl rfl (by decide +kernel) ⟨Nat.le_of_ble_eq_true rfl, Nat.le_of_ble_eq_true rfl⟩) ⟨Gv.blind, va_recv hK hP (ci := 1) (q0 := 0) rfl rfl, Gv.of (hE.S hS hAN) ⟨(hP.sub [0, 1, 2, 3] rfl), hN.sub [0, 1, 2, 3] (by decide) rfl⟩⟩ rfl rfl hl.1 rfl (lv_room (Nat.le_of_ble_eq_true rfl)) dX1_writeLevels_26 ⟨Nat.le_of_ble_eq_true rfl, Nat.le_of_ble_eq_true rfl⟩) hS (fun q _ h => inL_sub [0, 1, 2, 3] rfl q h) (inL_sub [0, 1, 2, 3] rfl) (fun u t H locs ht hvm hw hB hz1 hk1 hS => ?_)
          obtain ⟨S1_10, eu⟩ : ∃ z, z = u := ⟨_, rfl⟩
          subst eu
          rw [ht] at hB
          have hP := va_back (L := [w0, wR, wK, wM]) hP hN rfl [0, 1, 2, 3] rfl rfl (fun q h1 h2 => hk1 q h1 h2) hB
          clear hB hk1 hz1 hvm ht t
          have hP : va_P (dC, dI) vwCl [(w0, .inr (1, [.ref wR, .ref wK, .ref wM, .int (nI S1_10.2.2.2)])), (wR, .inl (cI, 2487, .inl S1_10.1)), (wK, .inl (cI, 5, .inl S1_10.2.1)), (wM, .inl (cI, 3, .inl S1_10.2.2.1)), (hV, .inl (cI, 768, .inl fv))] H := hP
          have hw : S1_10 = wnF (nI cn) 0 S := hw
          have hwr_9 := hw
          have hwr_9 : S1_10 = wnF (nI cn) 0 S := hwr_9
          refine lv_iconst (v := 0) hx hb dX1_writeLevels_29 (by decide) ?_
          refine lv_istore (lv' := [(4, .int 0), (3, .int (nI cn)), (0, .ref w0), (1, .ref hV), (2, .int (nI a))]) hx hb dX1_writeLevels_30 hl (by decide) rfl (fun ls hl => ?_)
          have L32 : ∀ (n32 : Nat) (i : Nat) (T : WST), (i ≤ cn) → (T = wlS fv a (wnF (nI cn) 0 S) i) → cn - i < n32 → ∀ (H : Heap) (locs : List Loc) (ls : Array Slot), va_P (dC, dI) vwCl [(w0, .inr (1, [.ref wR, .ref wK, .ref wM, .int (nI T.2.2.2)])), (wR, .inl (cI, 2487, .inl T.1)), (wK, .inl (cI, 5, .inl T.2.1)), (wM, .inl (cI, 3, .inl T.2.2.1)), (hV, .inl (cI, 768, .inl fv))] H → va_S (inL [w0, wR, wK, wM]) s.heap H locs → lv_has ls 6 [(4, .int (nI i)), (3, .int (nI cn)), (0, .ref w0), (1, .ref hV), (2, .int (nI a))] → W p l e (headSpec wsX1_writeLevels ({ frames := 3, cells := 0, slots := 0, locals := 68 } : Room)).room s m ([.ref w0, .ref hV, .int (nI a)] : List Value).toArray below meth c H locs 0 0 (MQ below (va_Qv (fun (S1 : WST) => S1 = wlF fv a S) (fun (S1 : WST) (t : State) => va_P (dC, dI) vwCl [(w0, .inr (1, [.ref wR, .ref wK, .ref wM, .int (nI S1.2.2.2)])), (wR, .inl (cI, 2487, .inl S1.1)), (wK, .inl (cI, 5, .inl S1.2.1)), (wM, .inl (cI, 3, .inl S1.2.2.1))] t.heap) (inL [w0, wR, wK, wM])) ([.ref w0, .ref hV, .int (nI a)] : List Value).toArray s 0 0 (inL [w0, wR, wK, wM])) (F0 m 32 ls []) := by
            intro n32
            induction n32 with
            | zero => intro i T hi hT hz; exact absurd hz (Nat.not_lt_zero _)
            | succ n32 ih32 =>
              intro i T hi hT hfu H locs ls hP hS hl
              have hTn := wlS_n fv a (wnF (nI cn) 0 S) i
              have hTn2 := wnF_n (nI cn) 0 S
              rw [← hT] at hTn
              refine lv_iload hx hb dX1_writeLevels_32 (lv_at hl 0 rfl) ?_
              refine lv_iload_n hx hb dX1_writeLevels_34 rfl (lv_at hl 1 rfl) ?_
              refine lv_icmp_ge (tgt := 71) hx hb dX1_writeLevels_35 (by decide) (fun c35 => ?_) (fun c35 => ?_)
              · skip
                have c35 : cn ≤ i := (nI_leI (a := cn) (b := i) (by omega) (by omega)).mp c35
                obtain rfl : i = cn := by omega
                exact W.vret hx hb hr (fun t ht hW => ⟨⟨T, rfl, (by unfold wlF; rw [hcc]; exact hT), by show va_P _ _ _ t.heap; rw [ht]; exact hP.sub [0, 1, 2, 3] rfl⟩, hS.F ht⟩) hS.2.2 dX1_writeLevels_71
              · skip
                have c35 : ¬ cn ≤ i := fun z => c35 ((nI_leI (a := cn) (b := i) (by omega) (by omega)).mpr z)
                refine lv_iload hx hb dX1_writeLevels_38 (lv_at hl 0 rfl) ?_
                refine lv_if_ne (tgt := 47) hx hb dX1_writeLevels_40 (by decide) (fun c40 => ?_) (fun c40 => ?_)
                · skip
                  have c40 : ¬ i = 0 := fun z => c40 ((nI_eq (a := i) (b := 0) (by omega) (by omega)).mpr z)
                  refine lv_iconst (v := 1) hx hb dX1_writeLevels_47 (by decide) ?_
                  refine lv_istore (lv' := [(5, .int 1), (4, .int (nI i)), (3, .int (nI cn)), (0, .ref w0), (1, .ref hV), (2, .int (nI a))]) hx hb dX1_writeLevels_48 hl (by decide) rfl (fun ls hl => ?_)
                  refine lv_aload_n hx hb dX1_writeLevels_50 rfl (lv_at hl 3 rfl) ?_
                  refine lv_aload_n hx hb dX1_writeLevels_51 rfl (lv_at hl 4 rfl) ?_
                  refine lv_iload_n hx hb dX1_writeLevels_52 rfl (lv_at hl 5 rfl) ?_
                  refine lv_iload hx hb dX1_writeLevels_53 (lv_at hl 1 rfl) ?_
                  refine lv_iadd hx hb dX1_writeLevels_55 ?_
                  refine lv_topr (show _ = nI (a + i) from nI_add a i) ?_
                  refine wa_iald (D := (dC, dI)) (i := (a + i)) (f := fv) hx hb hK hP 4 0 rfl rfl (by omega) (by omega) dX1_writeLevels_56 ?_
                  refine vp_callSi (va_Run.run (va_runSN (As := [.int (fv (a + i))]) (rest := [.ref w0]) ⟨hx, hb, hml, hown, hts⟩ (C_X5_folded l dC dI cI cZ cP N0 tO (fv (a + i)) ) ⟨va_cnB 1 hts gX1_writeLevels_X5_folded_n104 rfl rfl rfl hNS.2.2.1.1 (hts (.initialized RX5) (List.mem_of_getElem? (i := 18) (by decide +kernel))) (by decide +kernel) ⟨Nat.le_of_ble_eq_true rfl, Nat.le_of_ble_eq_true rfl⟩, (hts (.static yX5_folded) (List.mem_of_getElem? (i := 17) (by decide +kernel))), trivial⟩ ⟨Gv.blind, Gv.of (hE.S hS hAN) trivial⟩ rfl rfl hl.1 rfl (lv_room (Nat.le_of_ble_eq_true rfl)) dX1_writeLevels_57 ⟨Nat.le_of_ble_eq_true rfl, Nat.le_of_ble_eq_true rfl⟩)) (fun r_11 hr_11 => ?_)
                  have hr_11 : r_11 = foldedI (fv (a + i)) := hr_11
                  refine lv_topr (show _ = foldedI (fv (a + i)) from hr_11) ?_
                  refine lv_iload hx hb dX1_writeLevels_60 (lv_at hl 0 rfl) ?_
                  refine va_callv (va_runV (As := [.int (foldedI (fv (a + i))), .int 1]) (rest := []) ⟨hx, hb, hml, hown, hts⟩ (C_X1_writeNumber l dC dI cI cZ cP N0 tO w0 wR wK wM T (foldedI (fv (a + i))) 1 (by omega) (by omega)) (cwV 2 hts gX1_writeLevels_X1_writeNumber rfl rfl rfl (by decide +kernel) ⟨Nat.le_of_ble_eq_true rfl, Nat.le_of_ble_eq_true rfl⟩) ⟨Gv.blind, va_recv hK hP (ci := 1) (q0 := 0) rfl rfl, Gv.of (hE.S hS hAN) ⟨(hP.sub [0, 1, 2, 3] rfl), hN.sub [0, 1, 2, 3] (by decide) rfl⟩⟩ rfl rfl hl.1 rfl (lv_room (Nat.le_of_ble_eq_true rfl)) dX1_writeLevels_62 ⟨Nat.le_of_ble_eq_true rfl, Nat.le_of_ble_eq_true rfl⟩) hS (fun q _ h => inL_sub [0, 1, 2, 3] rfl q h) (inL_sub [0, 1, 2, 3] rfl) (fun u t H locs ht hvm hw hB hz1 hk1 hS => ?_)
                  obtain ⟨S1_13, eu⟩ : ∃ z, z = u := ⟨_, rfl⟩
                  subst eu
                  rw [ht] at hB
                  have hP := va_back (L := [w0, wR, wK, wM]) hP hN rfl [0, 1, 2, 3] rfl rfl (fun q h1 h2 => hk1 q h1 h2) hB
                  clear hB hk1 hz1 hvm ht t
                  have hP : va_P (dC, dI) vwCl [(w0, .inr (1, [.ref wR, .ref wK, .ref wM, .int (nI S1_13.2.2.2)])), (wR, .inl (cI, 2487, .inl S1_13.1)), (wK, .inl (cI, 5, .inl S1_13.2.1)), (wM, .inl (cI, 3, .inl S1_13.2.2.1)), (hV, .inl (cI, 768, .inl fv))] H := hP
                  have hw : S1_13 = wnF (foldedI (fv (a + i))) 1 T := hw
                  have hwr_12 := hw
                  have hwr_12 : S1_13 = wnF (foldedI (fv (a + i))) 1 T := hwr_12
                  refine lv_iinc (v := nI (i + 1)) (lv' := [(4, .int (nI (i + 1))), (5, .int 1), (3, .int (nI cn)), (0, .ref w0), (1, .ref hV), (2, .int (nI a))]) hx hb dX1_writeLevels_65 hl (k := 1) rfl (show nI i + Int32.ofInt 1 = nI (i + 1) from nI_add _ _) (by decide) rfl (fun ls hl => ?_)
                  refine lv_goto (tgt := 32) hx hb dX1_writeLevels_68 (by decide) ?_
                  exact ih32 (i + 1) S1_13 (by omega) (by rw [hwr_12, hT]; show _ = wnF _ (if i = 0 then 2 else 1) _; rw [if_neg c40]) (by omega) _ _ _ hP hS (lv_sub hl [0, 2, 3, 4, 5] rfl)
                · skip
                  have c40 : i = 0 := (nI_eq (a := i) (b := 0) (by omega) (by omega)).mp c40
                  refine lv_iconst (v := 2) hx hb dX1_writeLevels_43 (by decide) ?_
                  refine lv_goto (tgt := 48) hx hb dX1_writeLevels_44 (by decide) ?_
                  refine lv_istore (lv' := [(5, .int 2), (4, .int (nI i)), (3, .int (nI cn)), (0, .ref w0), (1, .ref hV), (2, .int (nI a))]) hx hb dX1_writeLevels_48 hl (by decide) rfl (fun ls hl => ?_)
                  refine lv_aload_n hx hb dX1_writeLevels_50 rfl (lv_at hl 3 rfl) ?_
                  refine lv_aload_n hx hb dX1_writeLevels_51 rfl (lv_at hl 4 rfl) ?_
                  refine lv_iload_n hx hb dX1_writeLevels_52 rfl (lv_at hl 5 rfl) ?_
                  refine lv_iload hx hb dX1_writeLevels_53 (lv_at hl 1 rfl) ?_
                  refine lv_iadd hx hb dX1_writeLevels_55 ?_
                  refine lv_topr (show _ = nI (a + i) from nI_add a i) ?_
                  refine wa_iald (D := (dC, dI)) (i := (a + i)) (f := fv) hx hb hK hP 4 0 rfl rfl (by omega) (by omega) dX1_writeLevels_56 ?_
                  refine vp_callSi (va_Run.run (va_runSN (As := [.int (fv (a + i))]) (rest := [.ref w0]) ⟨hx, hb, hml, hown, hts⟩ (C_X5_folded l dC dI cI cZ cP N0 tO (fv (a + i)) ) ⟨va_cnB 1 hts gX1_writeLevels_X5_folded_n104 rfl rfl rfl hNS.2.2.1.1 (hts (.initialized RX5) (List.mem_of_getElem? (i := 18) (by decide +kernel))) (by decide +kernel) ⟨Nat.le_of_ble_eq_true rfl, Nat.le_of_ble_eq_true rfl⟩, (hts (.static yX5_folded) (List.mem_of_getElem? (i := 17) (by decide +kernel))), trivial⟩ ⟨Gv.blind, Gv.of (hE.S hS hAN) trivial⟩ rfl rfl hl.1 rfl (lv_room (Nat.le_of_ble_eq_true rfl)) dX1_writeLevels_57 ⟨Nat.le_of_ble_eq_true rfl, Nat.le_of_ble_eq_true rfl⟩)) (fun r_14 hr_14 => ?_)
                  have hr_14 : r_14 = foldedI (fv (a + i)) := hr_14
                  refine lv_topr (show _ = foldedI (fv (a + i)) from hr_14) ?_
                  refine lv_iload hx hb dX1_writeLevels_60 (lv_at hl 0 rfl) ?_
                  refine va_callv (va_runV (As := [.int (foldedI (fv (a + i))), .int 2]) (rest := []) ⟨hx, hb, hml, hown, hts⟩ (C_X1_writeNumber l dC dI cI cZ cP N0 tO w0 wR wK wM T (foldedI (fv (a + i))) 2 (by omega) (by omega)) (cwV 2 hts gX1_writeLevels_X1_writeNumber rfl rfl rfl (by decide +kernel) ⟨Nat.le_of_ble_eq_true rfl, Nat.le_of_ble_eq_true rfl⟩) ⟨Gv.blind, va_recv hK hP (ci := 1) (q0 := 0) rfl rfl, Gv.of (hE.S hS hAN) ⟨(hP.sub [0, 1, 2, 3] rfl), hN.sub [0, 1, 2, 3] (by decide) rfl⟩⟩ rfl rfl hl.1 rfl (lv_room (Nat.le_of_ble_eq_true rfl)) dX1_writeLevels_62 ⟨Nat.le_of_ble_eq_true rfl, Nat.le_of_ble_eq_true rfl⟩) hS (fun q _ h => inL_sub [0, 1, 2, 3] rfl q h) (inL_sub [0, 1, 2, 3] rfl) (fun u t H locs ht hvm hw hB hz1 hk1 hS => ?_)
                  obtain ⟨S1_16, eu⟩ : ∃ z, z = u := ⟨_, rfl⟩
                  subst eu
                  rw [ht] at hB
                  have hP := va_back (L := [w0, wR, wK, wM]) hP hN rfl [0, 1, 2, 3] rfl rfl (fun q h1 h2 => hk1 q h1 h2) hB
                  clear hB hk1 hz1 hvm ht t
                  have hP : va_P (dC, dI) vwCl [(w0, .inr (1, [.ref wR, .ref wK, .ref wM, .int (nI S1_16.2.2.2)])), (wR, .inl (cI, 2487, .inl S1_16.1)), (wK, .inl (cI, 5, .inl S1_16.2.1)), (wM, .inl (cI, 3, .inl S1_16.2.2.1)), (hV, .inl (cI, 768, .inl fv))] H := hP
                  have hw : S1_16 = wnF (foldedI (fv (a + i))) 2 T := hw
                  have hwr_15 := hw
                  have hwr_15 : S1_16 = wnF (foldedI (fv (a + i))) 2 T := hwr_15
                  refine lv_iinc (v := nI (i + 1)) (lv' := [(4, .int (nI (i + 1))), (5, .int 2), (3, .int (nI cn)), (0, .ref w0), (1, .ref hV), (2, .int (nI a))]) hx hb dX1_writeLevels_65 hl (k := 1) rfl (show nI i + Int32.ofInt 1 = nI (i + 1) from nI_add _ _) (by decide) rfl (fun ls hl => ?_)
                  refine lv_goto (tgt := 32) hx hb dX1_writeLevels_68 (by decide) ?_
                  exact ih32 (i + 1) S1_16 (by omega) (by rw [hwr_15, hT]; show _ = wnF _ (if i = 0 then 2 else 1) _; rw [if_pos c40]) (by omega) _ _ _ hP hS (lv_sub hl [0, 2, 3, 4, 5] rfl)
          exact L32 (cn + 1) 0 S1_10 (by omega) (hwr_9) (Nat.lt_succ_self _) _ _ _ hP hS (lv_sub hl [0, 1, 2, 3, 4] rfl)
        · skip
          refine lv_iinc (v := nI (cn - 1)) (lv' := [(3, .int (nI (cn - 1))), (0, .ref w0), (1, .ref hV), (2, .int (nI a))]) hx hb dX1_writeLevels_17 hl (k := 0) rfl (nI_dec (by omega)) (by decide) rfl (fun ls hl => ?_)
          refine lv_goto (tgt := 3) hx hb dX1_writeLevels_20 (by decide) ?_
          exact ih3 (cn - 1) (hc.trans (cS_dec (by omega) c14)) (by omega) (by omega) _ _ _ hP hS (lv_sub hl [0, 1, 2, 3] rfl)
  exact L3 (16 + 1) 16 rfl (by omega) (Nat.lt_succ_self _) _ _ _ hP hS (lv_sub hl [0, 1, 2, 3] rfl)
set_option maxHeartbeats 4000000 in
set_option maxRecDepth 100000 in
theorem C_X1_writeBlock (l : Launch) (dC : Nat → ClassId) (dI : Nat → Nat → Nat) (cI cZ cP : ClassId) (N0 tO : Nat) (w0 wR wK wM : Nat) (S : WST) (p0 pK pX pY pC pV pR pU pG pW : Nat) (num q er ky sm : Int32) (kd : Nat → Nat) (fx fy fv : Nat → Int32) (b : Nat) (hnb : S.2.2.2 < 900000) (h1 : b < 12) (hkd : ∀ j, j < 12 → kd j < 5) : Met l yX1_writeBlock wsX1_writeBlock ({ frames := 4, cells := 0, slots := 0, locals := 93 } : Room) (Gv (dC, dI) cI cZ cP N0 tO [.ref w0, .ref p0, .int (nI b)] (fun H => va_P (dC, dI) vwCl [(w0, .inr (1, [.ref wR, .ref wK, .ref wM, .int (nI S.2.2.2)])), (wR, .inl (cI, 2487, .inl S.1)), (wK, .inl (cI, 5, .inl S.2.1)), (wM, .inl (cI, 3, .inl S.2.2.1)), (p0, .inr (2, [.ref pK, .ref pX, .ref pY, .ref pC, .ref pV, .ref pR, .ref pU, .ref pG, .ref pW, .int num, .int q, .int er, .int ky, .int sm])), (pK, .inl (cI, 12, .inl (fun k => nI (kd k)))), (pX, .inl (cI, 12, .inl fx)), (pY, .inl (cI, 12, .inl fy)), (pV, .inl (cI, 768, .inl fv))] H ∧ AD N0 [w0, wR, wK, wM, p0, pK, pX, pY, pV])) (va_Qv (fun (S1 : WST) => S1 = wbF kd fx fy fv b S) (fun (S1 : WST) (t : State) => va_P (dC, dI) vwCl [(w0, .inr (1, [.ref wR, .ref wK, .ref wM, .int (nI S1.2.2.2)])), (wR, .inl (cI, 2487, .inl S1.1)), (wK, .inl (cI, 5, .inl S1.2.1)), (wM, .inl (cI, 3, .inl S1.2.2.1))] t.heap) (inL [w0, wR, wK, wM])) 0 0 (inL [w0, wR, wK, wM]) := by
  refine Met.ofW (cc := cX1_writeBlock) (maxL := 5) (ret := none) (by decide) rfl ?_
  intro p e s m args below meth c s₁ B hml hv
  obtain ⟨rfl, hE, hP, hN⟩ := hv
  have hx := B.exec
  have hb := B.bytes
  have hr := B.returns
  have hts := atoms_spec (ws := wsX1_writeBlock) B.pre
  have hown : s.vm.findClass RX1 = some m.cls := findClass_of_methodNamed B.named
  have hlocks := B.notSynchronized
  have hK := hE.1
  have hNS := hE.2.1
  have hS : va_S (inL [w0, wR, wK, wM]) s.heap s.heap [] := va_S.rf
  have hAN : ∀ q : Nat, (inL [w0, wR, wK, wM]) q → N0 ≤ q := fun q h => hN.in [0, 1, 2, 3] rfl q h
  have hP : va_P (dC, dI) vwCl [(w0, .inr (1, [.ref wR, .ref wK, .ref wM, .int (nI S.2.2.2)])), (wR, .inl (cI, 2487, .inl S.1)), (wK, .inl (cI, 5, .inl S.2.1)), (wM, .inl (cI, 3, .inl S.2.2.1)), (p0, .inr (2, [.ref pK, .ref pX, .ref pY, .ref pC, .ref pV, .ref pR, .ref pU, .ref pG, .ref pW, .int num, .int q, .int er, .int ky, .int sm])), (pK, .inl (cI, 12, .inl (fun k => nI (kd k)))), (pX, .inl (cI, 12, .inl fx)), (pY, .inl (cI, 12, .inl fy)), (pV, .inl (cI, 768, .inl fv))] s.heap := hP
  have hinX2 : ∀ w ∈ wsX20, w ∈ wsX1_writeBlock := by decide +kernel
  have hl := lv_entry ([.ref w0, .ref p0, .int (nI b)]) (n := 5) (Nat.le_of_ble_eq_true rfl)
  rw [lg_entry_eq]
  generalize (lg_sl ([.ref w0, .ref p0, .int (nI b)]) ++ List.replicate (5 - (lg_sl ([.ref w0, .ref p0, .int (nI b)])).length) Slot.unset).toArray = ls at hl ⊢
  have hl : lv_has ls 5 [(0, .ref w0), (1, .ref p0), (2, .int (nI b))] := hl
  have hkb := hkd b h1
  have hwk := wkF_n (kd b) S
  have hwb := wbV_n kd fx fy b S
  refine lv_aload_n hx hb dX1_writeBlock_0 rfl (lv_at hl 1 rfl) ?_
  refine va_get (D := (dC, dI)) (ci := 2) (v := .ref pK) (C := RX2) (T := TX2) (N := 14) hx hb hts hinX2 hown hK hP 4 rfl rfl 0 (by decide) (hts (.fieldLink RX1 73 "GreyReel$Picture" "kind" "[I") (List.mem_of_getElem? (i := 1) (by decide +kernel))) (fun _ h9 => h9) rfl dX1_writeBlock_1 ?_
  refine lv_iload_n hx hb dX1_writeBlock_4 rfl (lv_at hl 2 rfl) ?_
  refine wa_iald (D := (dC, dI)) (i := b) (f := (fun k => nI (kd k))) hx hb hK hP 5 0 rfl rfl (by omega) (by omega) dX1_writeBlock_5 ?_
  refine lv_istore_n (lv' := [(3, .int (nI (kd b))), (0, .ref w0), (1, .ref p0), (2, .int (nI b))]) hx hb dX1_writeBlock_6 rfl hl (by decide) rfl (fun ls hl => ?_)
  refine lv_aload_n hx hb dX1_writeBlock_7 rfl (lv_at hl 1 rfl) ?_
  refine lv_iload_n hx hb dX1_writeBlock_8 rfl (lv_at hl 0 rfl) ?_
  refine va_callv (va_runV (As := [.int (nI (kd b))]) (rest := []) ⟨hx, hb, hml, hown, hts⟩ (C_X1_writeKind l dC dI cI cZ cP N0 tO w0 wR wK wM S (kd b) (by omega) hkb) (cwV 1 hts gX1_writeBlock_X1_writeKind rfl rfl rfl (by decide +kernel) ⟨Nat.le_of_ble_eq_true rfl, Nat.le_of_ble_eq_true rfl⟩) ⟨Gv.blind, va_recv hK hP (ci := 1) (q0 := 0) rfl rfl, Gv.of (hE.S hS hAN) ⟨(hP.sub [0, 1, 2, 3] rfl), hN.sub [0, 1, 2, 3] (by decide) rfl⟩⟩ rfl rfl hl.1 rfl (lv_room (Nat.le_of_ble_eq_true rfl)) dX1_writeBlock_9 ⟨Nat.le_of_ble_eq_true rfl, Nat.le_of_ble_eq_true rfl⟩) hS (fun q _ h => inL_sub [0, 1, 2, 3] rfl q h) (inL_sub [0, 1, 2, 3] rfl) (fun u t H locs ht hvm hw hB hz1 hk1 hS => ?_)
  obtain ⟨S1_2, eu⟩ : ∃ z, z = u := ⟨_, rfl⟩
  subst eu
  rw [ht] at hB
  have hP := va_back (L := [w0, wR, wK, wM]) hP hN rfl [0, 1, 2, 3] rfl rfl (fun q h1 h2 => hk1 q h1 h2) hB
  clear hB hk1 hz1 hvm ht t
  have hP : va_P (dC, dI) vwCl [(w0, .inr (1, [.ref wR, .ref wK, .ref wM, .int (nI S1_2.2.2.2)])), (wR, .inl (cI, 2487, .inl S1_2.1)), (wK, .inl (cI, 5, .inl S1_2.2.1)), (wM, .inl (cI, 3, .inl S1_2.2.2.1)), (p0, .inr (2, [.ref pK, .ref pX, .ref pY, .ref pC, .ref pV, .ref pR, .ref pU, .ref pG, .ref pW, .int num, .int q, .int er, .int ky, .int sm])), (pK, .inl (cI, 12, .inl (fun k => nI (kd k)))), (pX, .inl (cI, 12, .inl fx)), (pY, .inl (cI, 12, .inl fy)), (pV, .inl (cI, 768, .inl fv))] H := hP
  have hw : S1_2 = wkF (kd b) S := hw
  have hwr_1 := hw
  have hwr_1 : S1_2 = wkF (kd b) S := hwr_1
  refine lv_iload_n hx hb dX1_writeBlock_12 rfl (lv_at hl 0 rfl) ?_
  refine lv_iconst (v := 1) hx hb dX1_writeBlock_13 (by decide) ?_
  have J49 : ∀ (U : WST), (U = wbV kd fx fy b S) → ∀ (H : Heap) (locs : List Loc) (ls : Array Slot), va_P (dC, dI) vwCl [(w0, .inr (1, [.ref wR, .ref wK, .ref wM, .int (nI U.2.2.2)])), (wR, .inl (cI, 2487, .inl U.1)), (wK, .inl (cI, 5, .inl U.2.1)), (wM, .inl (cI, 3, .inl U.2.2.1)), (p0, .inr (2, [.ref pK, .ref pX, .ref pY, .ref pC, .ref pV, .ref pR, .ref pU, .ref pG, .ref pW, .int num, .int q, .int er, .int ky, .int sm])), (pK, .inl (cI, 12, .inl (fun k => nI (kd k)))), (pX, .inl (cI, 12, .inl fx)), (pY, .inl (cI, 12, .inl fy)), (pV, .inl (cI, 768, .inl fv))] H → va_S (inL [w0, wR, wK, wM]) s.heap H locs → lv_has ls 5 [(3, .int (nI (kd b))), (0, .ref w0), (1, .ref p0), (2, .int (nI b))] → W p l e (headSpec wsX1_writeBlock ({ frames := 4, cells := 0, slots := 0, locals := 93 } : Room)).room s m ([.ref w0, .ref p0, .int (nI b)] : List Value).toArray below meth c H locs 0 0 (MQ below (va_Qv (fun (S1 : WST) => S1 = wbF kd fx fy fv b S) (fun (S1 : WST) (t : State) => va_P (dC, dI) vwCl [(w0, .inr (1, [.ref wR, .ref wK, .ref wM, .int (nI S1.2.2.2)])), (wR, .inl (cI, 2487, .inl S1.1)), (wK, .inl (cI, 5, .inl S1.2.1)), (wM, .inl (cI, 3, .inl S1.2.2.1))] t.heap) (inL [w0, wR, wK, wM])) ([.ref w0, .ref p0, .int (nI b)] : List Value).toArray s 0 0 (inL [w0, wR, wK, wM])) (F0 m 49 ls []) := by
    intro U hU H locs ls hP hS hl
    refine lv_iload_n hx hb dX1_writeBlock_49 rfl (lv_at hl 0 rfl) ?_
    refine lv_if_eq (tgt := 86) hx hb dX1_writeBlock_50 (by decide) (fun c50 => ?_) (fun c50 => ?_)
    · skip
      have c50 : (kd b) = 0 := (nI_eq (a := (kd b)) (b := 0) (by omega) (by omega)).mp c50
      exact W.vret hx hb hr (fun t ht hW => ⟨⟨U, rfl, (by rw [hU]; unfold wbF; rw [if_pos c50]), by show va_P _ _ _ t.heap; rw [ht]; exact hP.sub [0, 1, 2, 3] rfl⟩, hS.F ht⟩) hS.2.2 dX1_writeBlock_86
    · skip
      have c50 : ¬ (kd b) = 0 := fun z => c50 ((nI_eq (a := (kd b)) (b := 0) (by omega) (by omega)).mpr z)
      refine lv_iconst (v := 0) hx hb dX1_writeBlock_53 (by decide) ?_
      refine lv_istore (lv' := [(4, .int 0), (3, .int (nI (kd b))), (0, .ref w0), (1, .ref p0), (2, .int (nI b))]) hx hb dX1_writeBlock_54 hl (by decide) rfl (fun ls hl => ?_)
      have L56 : ∀ (n56 : Nat) (i : Nat) (T : WST), (i ≤ 4) → (T = wlQ fv b U i) → 4 - i < n56 → ∀ (H : Heap) (locs : List Loc) (ls : Array Slot), va_P (dC, dI) vwCl [(w0, .inr (1, [.ref wR, .ref wK, .ref wM, .int (nI T.2.2.2)])), (wR, .inl (cI, 2487, .inl T.1)), (wK, .inl (cI, 5, .inl T.2.1)), (wM, .inl (cI, 3, .inl T.2.2.1)), (p0, .inr (2, [.ref pK, .ref pX, .ref pY, .ref pC, .ref pV, .ref pR, .ref pU, .ref pG, .ref pW, .int num, .int q, .int er, .int ky, .int sm])), (pK, .inl (cI, 12, .inl (fun k => nI (kd k)))), (pX, .inl (cI, 12, .inl fx)), (pY, .inl (cI, 12, .inl fy)), (pV, .inl (cI, 768, .inl fv))] H → va_S (inL [w0, wR, wK, wM]) s.heap H locs → lv_has ls 5 [(4, .int (nI i)), (3, .int (nI (kd b))), (0, .ref w0), (1, .ref p0), (2, .int (nI b))] → W p l e (headSpec wsX1_writeBlock ({ frames := 4, cells := 0, slots := 0, locals := 93 } : Room)).room s m ([.ref w0, .ref p0, .int (nI b)] : List Value).toArray below meth c H locs 0 0 (MQ below (va_Qv (fun (S1 : WST) => S1 = wbF kd fx fy fv b S) (fun (S1 : WST) (t : State) => va_P (dC, dI) vwCl [(w0, .inr (1, [.ref wR, .ref wK, .ref wM, .int (nI S1.2.2.2)])), (wR, .inl (cI, 2487, .inl S1.1)), (wK, .inl (cI, 5, .inl S1.2.1)), (wM, .inl (cI, 3, .inl S1.2.2.1))] t.heap) (inL [w0, wR, wK, wM])) ([.ref w0, .ref p0, .int (nI b)] : List Value).toArray s 0 0 (inL [w0, wR, wK, wM])) (F0 m 56 ls []) := by
        intro n56
        induction n56 with
        | zero => intro i T hi hT hz; exact absurd hz (Nat.not_lt_zero _)
        | succ n56 ih56 =>
          intro i T hi hT hfu H locs ls hP hS hl
          have hTn := wlQ_n fv b U i
          rw [← hT, hU] at hTn
          refine lv_iload hx hb dX1_writeBlock_56 (lv_at hl 0 rfl) ?_
          refine lv_iconst (v := 4) hx hb dX1_writeBlock_58 (by decide) ?_
          refine lv_icmp_ge (tgt := 86) hx hb dX1_writeBlock_59 (by decide) (fun c59 => ?_) (fun c59 => ?_)
          · skip
            have c59 : 4 ≤ i := (nI_leI (a := 4) (b := i) (by omega) (by omega)).mp c59
            obtain rfl : i = 4 := by omega
            exact W.vret hx hb hr (fun t ht hW => ⟨⟨T, rfl, (by rw [hT, hU]; unfold wbF; rw [if_neg c50]), by show va_P _ _ _ t.heap; rw [ht]; exact hP.sub [0, 1, 2, 3] rfl⟩, hS.F ht⟩) hS.2.2 dX1_writeBlock_86
          · skip
            have c59 : ¬ 4 ≤ i := fun z => c59 ((nI_leI (a := 4) (b := i) (by omega) (by omega)).mpr z)
            refine lv_aload_n hx hb dX1_writeBlock_62 rfl (lv_at hl 2 rfl) ?_
            refine lv_aload_n hx hb dX1_writeBlock_63 rfl (lv_at hl 3 rfl) ?_
            refine va_get (D := (dC, dI)) (ci := 2) (v := .ref pV) (C := RX2) (T := TX2) (N := 14) hx hb hts hinX2 hown hK hP 4 rfl rfl 4 (by decide) (hts (.fieldLink RX1 95 "GreyReel$Picture" "level" "[I") (List.mem_of_getElem? (i := 4) (by decide +kernel))) (fun _ h9 => h9) rfl dX1_writeBlock_64 ?_
            refine lv_iload_n hx hb dX1_writeBlock_67 rfl (lv_at hl 4 rfl) ?_
            refine lv_bipush (v := 64) hx hb dX1_writeBlock_68 (by decide +kernel) ?_
            refine lv_imul hx hb dX1_writeBlock_70 ?_
            refine lv_topr (show _ = nI (b * 64) from pk_mul b 64) ?_
            refine lv_iload hx hb dX1_writeBlock_71 (lv_at hl 0 rfl) ?_
            refine lv_bipush (v := 16) hx hb dX1_writeBlock_73 (by decide +kernel) ?_
            refine lv_imul hx hb dX1_writeBlock_75 ?_
            refine lv_topr (show _ = nI (i * 16) from pk_mul i 16) ?_
            refine lv_iadd hx hb dX1_writeBlock_76 ?_
            refine lv_topr (show _ = nI ((b * 64) + (i * 16)) from nI_add (b * 64) (i * 16)) ?_
            refine va_callv (va_runV (As := [.ref pV, .int (nI ((b * 64) + (i * 16)))]) (rest := []) ⟨hx, hb, hml, hown, hts⟩ (C_X1_writeLevels l dC dI cI cZ cP N0 tO w0 wR wK wM T pV fv ((b * 64) + (i * 16)) (by omega) (by omega)) (cwV 2 hts gX1_writeBlock_X1_writeLevels rfl rfl rfl (by decide +kernel) ⟨Nat.le_of_ble_eq_true rfl, Nat.le_of_ble_eq_true rfl⟩) ⟨Gv.blind, va_recv hK hP (ci := 1) (q0 := 0) rfl rfl, Gv.of (hE.S hS hAN) ⟨(hP.sub [0, 1, 2, 3, 8] rfl), hN.sub [0, 1, 2, 3, 8] (by decide) rfl⟩⟩ rfl rfl hl.1 rfl (lv_room (Nat.le_of_ble_eq_true rfl)) dX1_writeBlock_77 ⟨Nat.le_of_ble_eq_true rfl, Nat.le_of_ble_eq_true rfl⟩) hS (fun q _ h => inL_sub [0, 1, 2, 3] rfl q h) (inL_sub [0, 1, 2, 3] rfl) (fun u t H locs ht hvm hw hB hz1 hk1 hS => ?_)
            obtain ⟨S1_4, eu⟩ : ∃ z, z = u := ⟨_, rfl⟩
            subst eu
            rw [ht] at hB
            have hP := va_back (L := [w0, wR, wK, wM]) hP hN rfl [0, 1, 2, 3] rfl rfl (fun q h1 h2 => hk1 q h1 h2) hB
            clear hB hk1 hz1 hvm ht t
            have hP : va_P (dC, dI) vwCl [(w0, .inr (1, [.ref wR, .ref wK, .ref wM, .int (nI S1_4.2.2.2)])), (wR, .inl (cI, 2487, .inl S1_4.1)), (wK, .inl (cI, 5, .inl S1_4.2.1)), (wM, .inl (cI, 3, .inl S1_4.2.2.1)), (p0, .inr (2, [.ref pK, .ref pX, .ref pY, .ref pC, .ref pV, .ref pR, .ref pU, .ref pG, .ref pW, .int num, .int q, .int er, .int ky, .int sm])), (pK, .inl (cI, 12, .inl (fun k => nI (kd k)))), (pX, .inl (cI, 12, .inl fx)), (pY, .inl (cI, 12, .inl fy)), (pV, .inl (cI, 768, .inl fv))] H := hP
            have hw : S1_4 = wlF fv ((b * 64) + (i * 16)) T := hw
            have hwr_3 := hw
            have hwr_3 : S1_4 = wlF fv ((b * 64) + (i * 16)) T := hwr_3
            refine lv_iinc (v := nI (i + 1)) (lv' := [(4, .int (nI (i + 1))), (3, .int (nI (kd b))), (0, .ref w0), (1, .ref p0), (2, .int (nI b))]) hx hb dX1_writeBlock_80 hl (k := 0) rfl (show nI i + Int32.ofInt 1 = nI (i + 1) from nI_add _ _) (by decide) rfl (fun ls hl => ?_)
            refine lv_goto (tgt := 56) hx hb dX1_writeBlock_83 (by decide) ?_
            exact ih56 (i + 1) S1_4 (by omega) (by rw [hwr_3, hT]; rfl) (by omega) _ _ _ hP hS (lv_sub hl [0, 1, 2, 3, 4] rfl)
      exact L56 (4 + 1) 0 U (by omega) rfl (Nat.lt_succ_self _) _ _ _ hP hS (lv_sub hl [0, 1, 2, 3, 4] rfl)
  refine lv_icmp_ne (tgt := 49) hx hb dX1_writeBlock_14 (by decide) (fun c14 => ?_) (fun c14 => ?_)
  · skip
    have c14 : ¬ (kd b) = 1 := fun z => c14 ((nI_eq (a := (kd b)) (b := 1) (by omega) (by omega)).mpr z)
    exact J49 S1_2 (by rw [hwr_1]; unfold wbV; rw [if_neg c14]) _ _ _ hP hS (lv_sub hl [0, 1, 2, 3] rfl)
  · skip
    have c14 : (kd b) = 1 := (nI_eq (a := (kd b)) (b := 1) (by omega) (by omega)).mp c14
    refine lv_aload_n hx hb dX1_writeBlock_17 rfl (lv_at hl 1 rfl) ?_
    refine lv_aload_n hx hb dX1_writeBlock_18 rfl (lv_at hl 2 rfl) ?_
    refine va_get (D := (dC, dI)) (ci := 2) (v := .ref pX) (C := RX2) (T := TX2) (N := 14) hx hb hts hinX2 hown hK hP 4 rfl rfl 1 (by decide) (hts (.fieldLink RX1 80 "GreyReel$Picture" "vx" "[I") (List.mem_of_getElem? (i := 2) (by decide +kernel))) (fun _ h9 => h9) rfl dX1_writeBlock_19 ?_
    refine lv_iload_n hx hb dX1_writeBlock_22 rfl (lv_at hl 3 rfl) ?_
    refine wa_iald (D := (dC, dI)) (i := b) (f := fx) hx hb hK hP 6 0 rfl rfl (by omega) (by omega) dX1_writeBlock_23 ?_
    refine lv_aload_n hx hb dX1_writeBlock_24 rfl (lv_at hl 2 rfl) ?_
    refine lv_iload_n hx hb dX1_writeBlock_25 rfl (lv_at hl 3 rfl) ?_
    refine vp_callSi (va_Run.run (va_runV (As := [.int (nI b)]) (rest := [.int (fx b), .ref w0]) ⟨hx, hb, hml, hown, hts⟩ (C_X2_expectedX l dC dI cI cZ cP N0 tO p0 pK pX pY pC pV pR pU pG pW num q er ky sm fx b h1) (cwV 1 hts gX1_writeBlock_X2_expectedX rfl rfl rfl (by decide +kernel) ⟨Nat.le_of_ble_eq_true rfl, Nat.le_of_ble_eq_true rfl⟩) ⟨Gv.blind, va_recv hK hP (ci := 2) (q0 := 4) rfl rfl, Gv.of (hE.S hS hAN) (hP.sub [4, 6] rfl)⟩ rfl rfl hl.1 rfl (lv_room (Nat.le_of_ble_eq_true rfl)) dX1_writeBlock_26 ⟨Nat.le_of_ble_eq_true rfl, Nat.le_of_ble_eq_true rfl⟩)) (fun r_5 hr_5 => ?_)
    have hr_5 : r_5 = exF fx b := hr_5
    refine lv_isub hx hb dX1_writeBlock_29 ?_
    refine va_callv (va_runV (As := [.int ((fx b) - r_5)]) (rest := []) ⟨hx, hb, hml, hown, hts⟩ (C_X1_writeSigned l dC dI cI cZ cP N0 tO w0 wR wK wM S1_2 ((fx b) - r_5) (by rw [hwr_1]; omega)) (cwV 1 hts gX1_writeBlock_X1_writeSigned rfl rfl rfl (by decide +kernel) ⟨Nat.le_of_ble_eq_true rfl, Nat.le_of_ble_eq_true rfl⟩) ⟨Gv.blind, va_recv hK hP (ci := 1) (q0 := 0) rfl rfl, Gv.of (hE.S hS hAN) ⟨(hP.sub [0, 1, 2, 3] rfl), hN.sub [0, 1, 2, 3] (by decide) rfl⟩⟩ rfl rfl hl.1 rfl (lv_room (Nat.le_of_ble_eq_true rfl)) dX1_writeBlock_30 ⟨Nat.le_of_ble_eq_true rfl, Nat.le_of_ble_eq_true rfl⟩) hS (fun q _ h => inL_sub [0, 1, 2, 3] rfl q h) (inL_sub [0, 1, 2, 3] rfl) (fun u t H locs ht hvm hw hB hz1 hk1 hS => ?_)
    obtain ⟨S1_7, eu⟩ : ∃ z, z = u := ⟨_, rfl⟩
    subst eu
    rw [ht] at hB
    have hP := va_back (L := [w0, wR, wK, wM]) hP hN rfl [0, 1, 2, 3] rfl rfl (fun q h1 h2 => hk1 q h1 h2) hB
    clear hB hk1 hz1 hvm ht t
    have hP : va_P (dC, dI) vwCl [(w0, .inr (1, [.ref wR, .ref wK, .ref wM, .int (nI S1_7.2.2.2)])), (wR, .inl (cI, 2487, .inl S1_7.1)), (wK, .inl (cI, 5, .inl S1_7.2.1)), (wM, .inl (cI, 3, .inl S1_7.2.2.1)), (p0, .inr (2, [.ref pK, .ref pX, .ref pY, .ref pC, .ref pV, .ref pR, .ref pU, .ref pG, .ref pW, .int num, .int q, .int er, .int ky, .int sm])), (pK, .inl (cI, 12, .inl (fun k => nI (kd k)))), (pX, .inl (cI, 12, .inl fx)), (pY, .inl (cI, 12, .inl fy)), (pV, .inl (cI, 768, .inl fv))] H := hP
    have hw : S1_7 = wsF ((fx b) - r_5) S1_2 := hw
    have hwr_6 := hw
    have hwr_6 : S1_7 = wsF ((fx b) - r_5) S1_2 := hwr_6
    have hws1 := wsF_n (fx b - exF fx b) (wkF (kd b) S)
    refine lv_aload_n hx hb dX1_writeBlock_33 rfl (lv_at hl 1 rfl) ?_
    refine lv_aload_n hx hb dX1_writeBlock_34 rfl (lv_at hl 2 rfl) ?_
    refine va_get (D := (dC, dI)) (ci := 2) (v := .ref pY) (C := RX2) (T := TX2) (N := 14) hx hb hts hinX2 hown hK hP 4 rfl rfl 2 (by decide) (hts (.fieldLink RX1 89 "GreyReel$Picture" "vy" "[I") (List.mem_of_getElem? (i := 3) (by decide +kernel))) (fun _ h9 => h9) rfl dX1_writeBlock_35 ?_
    refine lv_iload_n hx hb dX1_writeBlock_38 rfl (lv_at hl 3 rfl) ?_
    refine wa_iald (D := (dC, dI)) (i := b) (f := fy) hx hb hK hP 7 0 rfl rfl (by omega) (by omega) dX1_writeBlock_39 ?_
    refine lv_aload_n hx hb dX1_writeBlock_40 rfl (lv_at hl 2 rfl) ?_
    refine lv_iload_n hx hb dX1_writeBlock_41 rfl (lv_at hl 3 rfl) ?_
    refine vp_callSi (va_Run.run (va_runV (As := [.int (nI b)]) (rest := [.int (fy b), .ref w0]) ⟨hx, hb, hml, hown, hts⟩ (C_X2_expectedY l dC dI cI cZ cP N0 tO p0 pK pX pY pC pV pR pU pG pW num q er ky sm fy b h1) (cwV 1 hts gX1_writeBlock_X2_expectedY rfl rfl rfl (by decide +kernel) ⟨Nat.le_of_ble_eq_true rfl, Nat.le_of_ble_eq_true rfl⟩) ⟨Gv.blind, va_recv hK hP (ci := 2) (q0 := 4) rfl rfl, Gv.of (hE.S hS hAN) (hP.sub [4, 7] rfl)⟩ rfl rfl hl.1 rfl (lv_room (Nat.le_of_ble_eq_true rfl)) dX1_writeBlock_42 ⟨Nat.le_of_ble_eq_true rfl, Nat.le_of_ble_eq_true rfl⟩)) (fun r_8 hr_8 => ?_)
    have hr_8 : r_8 = exF fy b := hr_8
    refine lv_isub hx hb dX1_writeBlock_45 ?_
    refine va_callv (va_runV (As := [.int ((fy b) - r_8)]) (rest := []) ⟨hx, hb, hml, hown, hts⟩ (C_X1_writeSigned l dC dI cI cZ cP N0 tO w0 wR wK wM S1_7 ((fy b) - r_8) (by rw [hwr_6, hr_5, hwr_1]; omega)) (cwV 1 hts gX1_writeBlock_X1_writeSigned rfl rfl rfl (by decide +kernel) ⟨Nat.le_of_ble_eq_true rfl, Nat.le_of_ble_eq_true rfl⟩) ⟨Gv.blind, va_recv hK hP (ci := 1) (q0 := 0) rfl rfl, Gv.of (hE.S hS hAN) ⟨(hP.sub [0, 1, 2, 3] rfl), hN.sub [0, 1, 2, 3] (by decide) rfl⟩⟩ rfl rfl hl.1 rfl (lv_room (Nat.le_of_ble_eq_true rfl)) dX1_writeBlock_46 ⟨Nat.le_of_ble_eq_true rfl, Nat.le_of_ble_eq_true rfl⟩) hS (fun q _ h => inL_sub [0, 1, 2, 3] rfl q h) (inL_sub [0, 1, 2, 3] rfl) (fun u t H locs ht hvm hw hB hz1 hk1 hS => ?_)
    obtain ⟨S1_10, eu⟩ : ∃ z, z = u := ⟨_, rfl⟩
    subst eu
    rw [ht] at hB
    have hP := va_back (L := [w0, wR, wK, wM]) hP hN rfl [0, 1, 2, 3] rfl rfl (fun q h1 h2 => hk1 q h1 h2) hB
    clear hB hk1 hz1 hvm ht t
    have hP : va_P (dC, dI) vwCl [(w0, .inr (1, [.ref wR, .ref wK, .ref wM, .int (nI S1_10.2.2.2)])), (wR, .inl (cI, 2487, .inl S1_10.1)), (wK, .inl (cI, 5, .inl S1_10.2.1)), (wM, .inl (cI, 3, .inl S1_10.2.2.1)), (p0, .inr (2, [.ref pK, .ref pX, .ref pY, .ref pC, .ref pV, .ref pR, .ref pU, .ref pG, .ref pW, .int num, .int q, .int er, .int ky, .int sm])), (pK, .inl (cI, 12, .inl (fun k => nI (kd k)))), (pX, .inl (cI, 12, .inl fx)), (pY, .inl (cI, 12, .inl fy)), (pV, .inl (cI, 768, .inl fv))] H := hP
    have hw : S1_10 = wsF ((fy b) - r_8) S1_7 := hw
    have hwr_9 := hw
    have hwr_9 : S1_10 = wsF ((fy b) - r_8) S1_7 := hwr_9
    exact J49 S1_10 (by rw [hwr_9, hr_8, hwr_6, hr_5, hwr_1]; unfold wbV; rw [if_pos c14]) _ _ _ hP hS (lv_sub hl [0, 1, 2, 3] rfl)
set_option maxHeartbeats 4000000 in
set_option maxRecDepth 100000 in
theorem C_X1_startBand (l : Launch) (dC : Nat → ClassId) (dI : Nat → Nat → Nat) (cI cZ cP : ClassId) (N0 tO : Nat) (w0 wR wK wM : Nat) (S : WST) (p0 pK pX pY pC pV pR pU pG pW : Nat) (num q er ky sm : Int32) (hnb : S.2.2.2 < 1000000) : Met l yX1_startBand wsX1_startBand ({ frames := 1, cells := 0, slots := 0, locals := 24 } : Room) (Gv (dC, dI) cI cZ cP N0 tO [.ref w0, .ref p0] (fun H => va_P (dC, dI) vwCl [(w0, .inr (1, [.ref wR, .ref wK, .ref wM, .int (nI S.2.2.2)])), (wR, .inl (cI, 2487, .inl S.1)), (wK, .inl (cI, 5, .inl S.2.1)), (wM, .inl (cI, 3, .inl S.2.2.1)), (p0, .inr (2, [.ref pK, .ref pX, .ref pY, .ref pC, .ref pV, .ref pR, .ref pU, .ref pG, .ref pW, .int num, .int q, .int er, .int ky, .int sm]))] H ∧ AD N0 [w0, wR, wK, wM, p0])) (va_Qv (fun (S1 : WST) => S1 = sbF num ky q sm S.1 S.2.2.2) (fun (S1 : WST) (t : State) => va_P (dC, dI) vwCl [(w0, .inr (1, [.ref wR, .ref wK, .ref wM, .int (nI S1.2.2.2)])), (wR, .inl (cI, 2487, .inl S1.1)), (wK, .inl (cI, 5, .inl S1.2.1)), (wM, .inl (cI, 3, .inl S1.2.2.1))] t.heap) (inL [w0, wR, wK, wM])) 0 0 (inL [w0, wR, wK, wM]) := by
  refine Met.ofW (cc := cX1_startBand) (maxL := 3) (ret := none) (by decide) rfl ?_
  intro p e s m args below meth c s₁ B hml hv
  obtain ⟨rfl, hE, hP, hN⟩ := hv
  have hx := B.exec
  have hb := B.bytes
  have hr := B.returns
  have hts := atoms_spec (ws := wsX1_startBand) B.pre
  have hown : s.vm.findClass RX1 = some m.cls := findClass_of_methodNamed B.named
  have hlocks := B.notSynchronized
  have hK := hE.1
  have hNS := hE.2.1
  have hS : va_S (inL [w0, wR, wK, wM]) s.heap s.heap [] := va_S.rf
  have hAN : ∀ q : Nat, (inL [w0, wR, wK, wM]) q → N0 ≤ q := fun q h => hN.in [0, 1, 2, 3] rfl q h
  have hP : va_P (dC, dI) vwCl [(w0, .inr (1, [.ref wR, .ref wK, .ref wM, .int (nI S.2.2.2)])), (wR, .inl (cI, 2487, .inl S.1)), (wK, .inl (cI, 5, .inl S.2.1)), (wM, .inl (cI, 3, .inl S.2.2.1)), (p0, .inr (2, [.ref pK, .ref pX, .ref pY, .ref pC, .ref pV, .ref pR, .ref pU, .ref pG, .ref pW, .int num, .int q, .int er, .int ky, .int sm]))] s.heap := hP
  have hinX1 : ∀ w ∈ wsX10, w ∈ wsX1_startBand := by decide +kernel
  have hinX2 : ∀ w ∈ wsX20, w ∈ wsX1_startBand := by decide +kernel
  have hl := lv_entry ([.ref w0, .ref p0]) (n := 3) (Nat.le_of_ble_eq_true rfl)
  rw [lg_entry_eq]
  generalize (lg_sl ([.ref w0, .ref p0]) ++ List.replicate (3 - (lg_sl ([.ref w0, .ref p0])).length) Slot.unset).toArray = ls at hl ⊢
  have hl : lv_has ls 3 [(0, .ref w0), (1, .ref p0)] := hl
  refine lv_iconst (v := 0) hx hb dX1_startBand_0 (by decide) ?_
  refine lv_istore_n (lv' := [(2, .int 0), (0, .ref w0), (1, .ref p0)]) hx hb dX1_startBand_1 rfl hl (by decide) rfl (fun ls hl => ?_)
  have L2 : ∀ (n2 : Nat) (i : Nat) (k1 : Nat → Int32), (i ≤ 5) → 5 - i < n2 → k1 = (fillTo (fun k => nI k) S.2.1 i) → ∀ (H : Heap) (locs : List Loc) (ls : Array Slot), va_P (dC, dI) vwCl [(w0, .inr (1, [.ref wR, .ref wK, .ref wM, .int (nI S.2.2.2)])), (wR, .inl (cI, 2487, .inl S.1)), (wK, .inl (cI, 5, .inl k1)), (wM, .inl (cI, 3, .inl S.2.2.1)), (p0, .inr (2, [.ref pK, .ref pX, .ref pY, .ref pC, .ref pV, .ref pR, .ref pU, .ref pG, .ref pW, .int num, .int q, .int er, .int ky, .int sm]))] H → va_S (inL [w0, wR, wK, wM]) s.heap H locs → lv_has ls 3 [(2, .int (nI i)), (0, .ref w0), (1, .ref p0)] → W p l e (headSpec wsX1_startBand ({ frames := 1, cells := 0, slots := 0, locals := 24 } : Room)).room s m ([.ref w0, .ref p0] : List Value).toArray below meth c H locs 0 0 (MQ below (va_Qv (fun (S1 : WST) => S1 = sbF num ky q sm S.1 S.2.2.2) (fun (S1 : WST) (t : State) => va_P (dC, dI) vwCl [(w0, .inr (1, [.ref wR, .ref wK, .ref wM, .int (nI S1.2.2.2)])), (wR, .inl (cI, 2487, .inl S1.1)), (wK, .inl (cI, 5, .inl S1.2.1)), (wM, .inl (cI, 3, .inl S1.2.2.1))] t.heap) (inL [w0, wR, wK, wM])) ([.ref w0, .ref p0] : List Value).toArray s 0 0 (inL [w0, wR, wK, wM])) (F0 m 2 ls []) := by
    intro n2
    induction n2 with
    | zero => intro i k1 hi hz; exact absurd hz (Nat.not_lt_zero _)
    | succ n2 ih2 =>
      intro i k1 hi hfu ek1 H locs ls hP hS hl
      refine lv_iload_n hx hb dX1_startBand_2 rfl (lv_at hl 0 rfl) ?_
      refine lv_iconst (v := 5) hx hb dX1_startBand_3 (by decide) ?_
      refine lv_icmp_ge (tgt := 20) hx hb dX1_startBand_4 (by decide) (fun c4 => ?_) (fun c4 => ?_)
      · skip
        have c4 : 5 ≤ i := (nI_leI (a := 5) (b := i) (by omega) (by omega)).mp c4
        obtain rfl : i = 5 := by omega
        have hP := hP.cong 2 (fun k => nI k) rfl (fun k hk => by rw [ek1]; exact fillTo_at _ _ hk)
        have hP : va_P (dC, dI) vwCl [(w0, .inr (1, [.ref wR, .ref wK, .ref wM, .int (nI S.2.2.2)])), (wR, .inl (cI, 2487, .inl S.1)), (wK, .inl (cI, 5, .inl (fun k => nI k))), (wM, .inl (cI, 3, .inl S.2.2.1)), (p0, .inr (2, [.ref pK, .ref pX, .ref pY, .ref pC, .ref pV, .ref pR, .ref pU, .ref pG, .ref pW, .int num, .int q, .int er, .int ky, .int sm]))] H := hP
        refine lv_aload_n hx hb dX1_startBand_20 rfl (lv_at hl 1 rfl) ?_
        refine va_get (D := (dC, dI)) (ci := 1) (v := .ref wM) (C := RX1) (T := TX1) (N := 4) hx hb hts hinX1 hown hK hP 0 rfl rfl 2 (by decide) (hts (.fieldLink RX1 18 "GreyReel$PacketWriter" "mean" "[I") (List.mem_of_getElem? (i := 2) (by decide +kernel))) (fun _ h9 => h9) rfl dX1_startBand_21 ?_
        refine lv_iconst (v := 4) hx hb dX1_startBand_24 (by decide) ?_
        refine va_callv (va_runS (As := [.ref wM, .int 4]) (rest := []) ⟨hx, hb, hml, hown, hts⟩ (C_J7_fill_53178 l dC dI cI cZ cP N0 tO wM 3 S.2.2.1 4 (by decide)) (va_cwS 2 hts gX1_startBand_J7_fill_53178 rfl rfl rfl (by decide +kernel) ⟨Nat.le_of_ble_eq_true rfl, Nat.le_of_ble_eq_true rfl⟩) ⟨Gv.blind, Gv.of (hE.S hS hAN) ⟨(hP.sub [3] rfl), hN.sub [3] (by decide) rfl⟩⟩ rfl rfl hl.1 rfl (lv_room (Nat.le_of_ble_eq_true rfl)) dX1_startBand_25 ⟨Nat.le_of_ble_eq_true rfl, Nat.le_of_ble_eq_true rfl⟩) hS (fun q _ h => inL_sub [3] rfl q h) (inL_sub [3] rfl) (fun u t H locs ht hvm hw hB hz1 hk1 hS => ?_)
        rw [ht] at hB
        have hP := va_back (L := [wM]) hP hN rfl [3] rfl rfl (fun q h1 h2 => hk1 q h1 h2) hB
        clear hB hk1 hz1 hvm ht t
        have hP : va_P (dC, dI) vwCl [(w0, .inr (1, [.ref wR, .ref wK, .ref wM, .int (nI S.2.2.2)])), (wR, .inl (cI, 2487, .inl S.1)), (wK, .inl (cI, 5, .inl (fun k => nI k))), (wM, .inl (cI, 3, .inl (fun _ => 4))), (p0, .inr (2, [.ref pK, .ref pX, .ref pY, .ref pC, .ref pV, .ref pR, .ref pU, .ref pG, .ref pW, .int num, .int q, .int er, .int ky, .int sm]))] H := hP
        have hw : True := hw
        have hwr_1 := hw
        refine lv_aload_n hx hb dX1_startBand_28 rfl (lv_at hl 1 rfl) ?_
        refine lv_aload_n hx hb dX1_startBand_29 rfl (lv_at hl 2 rfl) ?_
        refine va_get (D := (dC, dI)) (ci := 2) (v := .int num) (C := RX2) (T := TX2) (N := 14) hx hb hts hinX2 hown hK hP 4 rfl rfl 9 (by decide) (hts (.fieldLink RX1 56 "GreyReel$Picture" "number" "I") (List.mem_of_getElem? (i := 3) (by decide +kernel))) (fun _ h9 => h9) rfl dX1_startBand_30 ?_
        refine lv_iconst (v := 5) hx hb dX1_startBand_33 (by decide) ?_
        refine va_callv (va_runV (As := [.int num, .int 5]) (rest := []) ⟨hx, hb, hml, hown, hts⟩ (C_X1_put l dC dI cI cZ cP N0 tO w0 wR wK wM (S.1, (fun k => nI k), (fun _ => 4), S.2.2.2) num 5 (show S.2.2.2 < 2000000 by omega) (by decide) (by decide)) (cwV 2 hts gX1_startBand_X1_put rfl rfl rfl (by decide +kernel) ⟨Nat.le_of_ble_eq_true rfl, Nat.le_of_ble_eq_true rfl⟩) ⟨Gv.blind, va_recv hK hP (ci := 1) (q0 := 0) rfl rfl, Gv.of (hE.S hS hAN) ⟨(hP.sub [0, 1, 2, 3] rfl), hN.sub [0, 1, 2, 3] (by decide) rfl⟩⟩ rfl rfl hl.1 rfl (lv_room (Nat.le_of_ble_eq_true rfl)) dX1_startBand_34 ⟨Nat.le_of_ble_eq_true rfl, Nat.le_of_ble_eq_true rfl⟩) hS (fun q _ h => inL_sub [0, 1, 2, 3] rfl q h) (inL_sub [0, 1, 2, 3] rfl) (fun u t H locs ht hvm hw hB hz1 hk1 hS => ?_)
        obtain ⟨S1_3, eu⟩ : ∃ z, z = u := ⟨_, rfl⟩
        subst eu
        rw [ht] at hB
        have hP := va_back (L := [w0, wR, wK, wM]) hP hN rfl [0, 1, 2, 3] rfl rfl (fun q h1 h2 => hk1 q h1 h2) hB
        clear hB hk1 hz1 hvm ht t
        have hP : va_P (dC, dI) vwCl [(w0, .inr (1, [.ref wR, .ref wK, .ref wM, .int (nI S1_3.2.2.2)])), (wR, .inl (cI, 2487, .inl S1_3.1)), (wK, .inl (cI, 5, .inl S1_3.2.1)), (wM, .inl (cI, 3, .inl S1_3.2.2.1)), (p0, .inr (2, [.ref pK, .ref pX, .ref pY, .ref pC, .ref pV, .ref pR, .ref pU, .ref pG, .ref pW, .int num, .int q, .int er, .int ky, .int sm]))] H := hP
        have hw : S1_3 = wpF num 5 (S.1, (fun k => nI k), (fun _ => 4), S.2.2.2) := hw
        have hwr_2 := hw
        have hwr_2 : S1_3 = wpF num 5 (S.1, (fun k => nI k), (fun _ => 4), S.2.2.2) := hwr_2
        have hn1 : S1_3.2.2.2 = S.2.2.2 + 5 := by rw [hwr_2]; rfl
        refine lv_aload_n hx hb dX1_startBand_37 rfl (lv_at hl 1 rfl) ?_
        refine lv_aload_n hx hb dX1_startBand_38 rfl (lv_at hl 2 rfl) ?_
        refine va_get (D := (dC, dI)) (ci := 2) (v := .int ky) (C := RX2) (T := TX2) (N := 14) hx hb hts hinX2 hown hK hP 4 rfl rfl 12 (by decide) (hts (.fieldLink RX1 63 "GreyReel$Picture" "isKeyPicture" "Z") (List.mem_of_getElem? (i := 4) (by decide +kernel))) (fun _ h9 => h9) rfl dX1_startBand_39 ?_
        have J50 : ∀ (H : Heap) (locs : List Loc) (ls : Array Slot), va_P (dC, dI) vwCl [(w0, .inr (1, [.ref wR, .ref wK, .ref wM, .int (nI S1_3.2.2.2)])), (wR, .inl (cI, 2487, .inl S1_3.1)), (wK, .inl (cI, 5, .inl S1_3.2.1)), (wM, .inl (cI, 3, .inl S1_3.2.2.1)), (p0, .inr (2, [.ref pK, .ref pX, .ref pY, .ref pC, .ref pV, .ref pR, .ref pU, .ref pG, .ref pW, .int num, .int q, .int er, .int ky, .int sm]))] H → va_S (inL [w0, wR, wK, wM]) s.heap H locs → lv_has ls 3 [(2, .int (nI 5)), (0, .ref w0), (1, .ref p0)] → W p l e (headSpec wsX1_startBand ({ frames := 1, cells := 0, slots := 0, locals := 24 } : Room)).room s m ([.ref w0, .ref p0] : List Value).toArray below meth c H locs 0 0 (MQ below (va_Qv (fun (S1 : WST) => S1 = sbF num ky q sm S.1 S.2.2.2) (fun (S1 : WST) (t : State) => va_P (dC, dI) vwCl [(w0, .inr (1, [.ref wR, .ref wK, .ref wM, .int (nI S1.2.2.2)])), (wR, .inl (cI, 2487, .inl S1.1)), (wK, .inl (cI, 5, .inl S1.2.1)), (wM, .inl (cI, 3, .inl S1.2.2.1))] t.heap) (inL [w0, wR, wK, wM])) ([.ref w0, .ref p0] : List Value).toArray s 0 0 (inL [w0, wR, wK, wM])) (F0 m 50 ls [.int (zI ky), .ref w0]) := by
          intro H locs ls hP hS hl
          refine lv_iconst (v := 1) hx hb dX1_startBand_50 (by decide) ?_
          refine va_callv (va_runV (As := [.int (zI ky), .int 1]) (rest := []) ⟨hx, hb, hml, hown, hts⟩ (C_X1_put l dC dI cI cZ cP N0 tO w0 wR wK wM S1_3 (zI ky) 1 (by omega) (by decide) (by decide)) (cwV 2 hts gX1_startBand_X1_put rfl rfl rfl (by decide +kernel) ⟨Nat.le_of_ble_eq_true rfl, Nat.le_of_ble_eq_true rfl⟩) ⟨Gv.blind, va_recv hK hP (ci := 1) (q0 := 0) rfl rfl, Gv.of (hE.S hS hAN) ⟨(hP.sub [0, 1, 2, 3] rfl), hN.sub [0, 1, 2, 3] (by decide) rfl⟩⟩ rfl rfl hl.1 rfl (lv_room (Nat.le_of_ble_eq_true rfl)) dX1_startBand_51 ⟨Nat.le_of_ble_eq_true rfl, Nat.le_of_ble_eq_true rfl⟩) hS (fun q _ h => inL_sub [0, 1, 2, 3] rfl q h) (inL_sub [0, 1, 2, 3] rfl) (fun u t H locs ht hvm hw hB hz1 hk1 hS => ?_)
          obtain ⟨S1_5, eu⟩ : ∃ z, z = u := ⟨_, rfl⟩
          subst eu
          rw [ht] at hB
          have hP := va_back (L := [w0, wR, wK, wM]) hP hN rfl [0, 1, 2, 3] rfl rfl (fun q h1 h2 => hk1 q h1 h2) hB
          clear hB hk1 hz1 hvm ht t
          have hP : va_P (dC, dI) vwCl [(w0, .inr (1, [.ref wR, .ref wK, .ref wM, .int (nI S1_5.2.2.2)])), (wR, .inl (cI, 2487, .inl S1_5.1)), (wK, .inl (cI, 5, .inl S1_5.2.1)), (wM, .inl (cI, 3, .inl S1_5.2.2.1)), (p0, .inr (2, [.ref pK, .ref pX, .ref pY, .ref pC, .ref pV, .ref pR, .ref pU, .ref pG, .ref pW, .int num, .int q, .int er, .int ky, .int sm]))] H := hP
          have hw : S1_5 = wpF (zI ky) 1 S1_3 := hw
          have hwr_4 := hw
          have hwr_4 : S1_5 = wpF (zI ky) 1 S1_3 := hwr_4
          have hn2 : S1_5.2.2.2 = S.2.2.2 + 6 := by rw [hwr_4, wpF_n, hn1]; rfl
          refine lv_aload_n hx hb dX1_startBand_54 rfl (lv_at hl 1 rfl) ?_
          refine lv_aload_n hx hb dX1_startBand_55 rfl (lv_at hl 2 rfl) ?_
          refine va_get (D := (dC, dI)) (ci := 2) (v := .int q) (C := RX2) (T := TX2) (N := 14) hx hb hts hinX2 hown hK hP 4 rfl rfl 10 (by decide) (hts (.fieldLink RX1 67 "GreyReel$Picture" "q" "I") (List.mem_of_getElem? (i := 5) (by decide +kernel))) (fun _ h9 => h9) rfl dX1_startBand_56 ?_
          refine lv_bipush (v := 6) hx hb dX1_startBand_59 (by decide +kernel) ?_
          refine va_callv (va_runV (As := [.int q, .int 6]) (rest := []) ⟨hx, hb, hml, hown, hts⟩ (C_X1_put l dC dI cI cZ cP N0 tO w0 wR wK wM S1_5 q 6 (by omega) (by decide) (by decide)) (cwV 2 hts gX1_startBand_X1_put rfl rfl rfl (by decide +kernel) ⟨Nat.le_of_ble_eq_true rfl, Nat.le_of_ble_eq_true rfl⟩) ⟨Gv.blind, va_recv hK hP (ci := 1) (q0 := 0) rfl rfl, Gv.of (hE.S hS hAN) ⟨(hP.sub [0, 1, 2, 3] rfl), hN.sub [0, 1, 2, 3] (by decide) rfl⟩⟩ rfl rfl hl.1 rfl (lv_room (Nat.le_of_ble_eq_true rfl)) dX1_startBand_61 ⟨Nat.le_of_ble_eq_true rfl, Nat.le_of_ble_eq_true rfl⟩) hS (fun q _ h => inL_sub [0, 1, 2, 3] rfl q h) (inL_sub [0, 1, 2, 3] rfl) (fun u t H locs ht hvm hw hB hz1 hk1 hS => ?_)
          obtain ⟨S1_7, eu⟩ : ∃ z, z = u := ⟨_, rfl⟩
          subst eu
          rw [ht] at hB
          have hP := va_back (L := [w0, wR, wK, wM]) hP hN rfl [0, 1, 2, 3] rfl rfl (fun q h1 h2 => hk1 q h1 h2) hB
          clear hB hk1 hz1 hvm ht t
          have hP : va_P (dC, dI) vwCl [(w0, .inr (1, [.ref wR, .ref wK, .ref wM, .int (nI S1_7.2.2.2)])), (wR, .inl (cI, 2487, .inl S1_7.1)), (wK, .inl (cI, 5, .inl S1_7.2.1)), (wM, .inl (cI, 3, .inl S1_7.2.2.1)), (p0, .inr (2, [.ref pK, .ref pX, .ref pY, .ref pC, .ref pV, .ref pR, .ref pU, .ref pG, .ref pW, .int num, .int q, .int er, .int ky, .int sm]))] H := hP
          have hw : S1_7 = wpF q 6 S1_5 := hw
          have hwr_6 := hw
          have hwr_6 : S1_7 = wpF q 6 S1_5 := hwr_6
          have hn3 : S1_7.2.2.2 = S.2.2.2 + 12 := by rw [hwr_6, wpF_n, hn2]; rfl
          refine lv_aload_n hx hb dX1_startBand_64 rfl (lv_at hl 1 rfl) ?_
          refine lv_aload_n hx hb dX1_startBand_65 rfl (lv_at hl 2 rfl) ?_
          refine va_get (D := (dC, dI)) (ci := 2) (v := .int sm) (C := RX2) (T := TX2) (N := 14) hx hb hts hinX2 hown hK hP 4 rfl rfl 13 (by decide) (hts (.fieldLink RX1 70 "GreyReel$Picture" "isSmoothed" "Z") (List.mem_of_getElem? (i := 6) (by decide +kernel))) (fun _ h9 => h9) rfl dX1_startBand_66 ?_
          have J77 : ∀ (H : Heap) (locs : List Loc) (ls : Array Slot), va_P (dC, dI) vwCl [(w0, .inr (1, [.ref wR, .ref wK, .ref wM, .int (nI S1_7.2.2.2)])), (wR, .inl (cI, 2487, .inl S1_7.1)), (wK, .inl (cI, 5, .inl S1_7.2.1)), (wM, .inl (cI, 3, .inl S1_7.2.2.1)), (p0, .inr (2, [.ref pK, .ref pX, .ref pY, .ref pC, .ref pV, .ref pR, .ref pU, .ref pG, .ref pW, .int num, .int q, .int er, .int ky, .int sm]))] H → va_S (inL [w0, wR, wK, wM]) s.heap H locs → lv_has ls 3 [(2, .int (nI 5)), (0, .ref w0), (1, .ref p0)] → W p l e (headSpec wsX1_startBand ({ frames := 1, cells := 0, slots := 0, locals := 24 } : Room)).room s m ([.ref w0, .ref p0] : List Value).toArray below meth c H locs 0 0 (MQ below (va_Qv (fun (S1 : WST) => S1 = sbF num ky q sm S.1 S.2.2.2) (fun (S1 : WST) (t : State) => va_P (dC, dI) vwCl [(w0, .inr (1, [.ref wR, .ref wK, .ref wM, .int (nI S1.2.2.2)])), (wR, .inl (cI, 2487, .inl S1.1)), (wK, .inl (cI, 5, .inl S1.2.1)), (wM, .inl (cI, 3, .inl S1.2.2.1))] t.heap) (inL [w0, wR, wK, wM])) ([.ref w0, .ref p0] : List Value).toArray s 0 0 (inL [w0, wR, wK, wM])) (F0 m 77 ls [.int (zI sm), .ref w0]) := by
            intro H locs ls hP hS hl
            refine lv_iconst (v := 1) hx hb dX1_startBand_77 (by decide) ?_
            refine va_callv (va_runV (As := [.int (zI sm), .int 1]) (rest := []) ⟨hx, hb, hml, hown, hts⟩ (C_X1_put l dC dI cI cZ cP N0 tO w0 wR wK wM S1_7 (zI sm) 1 (by omega) (by decide) (by decide)) (cwV 2 hts gX1_startBand_X1_put rfl rfl rfl (by decide +kernel) ⟨Nat.le_of_ble_eq_true rfl, Nat.le_of_ble_eq_true rfl⟩) ⟨Gv.blind, va_recv hK hP (ci := 1) (q0 := 0) rfl rfl, Gv.of (hE.S hS hAN) ⟨(hP.sub [0, 1, 2, 3] rfl), hN.sub [0, 1, 2, 3] (by decide) rfl⟩⟩ rfl rfl hl.1 rfl (lv_room (Nat.le_of_ble_eq_true rfl)) dX1_startBand_78 ⟨Nat.le_of_ble_eq_true rfl, Nat.le_of_ble_eq_true rfl⟩) hS (fun q _ h => inL_sub [0, 1, 2, 3] rfl q h) (inL_sub [0, 1, 2, 3] rfl) (fun u t H locs ht hvm hw hB hz1 hk1 hS => ?_)
            obtain ⟨S1_9, eu⟩ : ∃ z, z = u := ⟨_, rfl⟩
            subst eu
            rw [ht] at hB
            have hP := va_back (L := [w0, wR, wK, wM]) hP hN rfl [0, 1, 2, 3] rfl rfl (fun q h1 h2 => hk1 q h1 h2) hB
            clear hB hk1 hz1 hvm ht t
            have hP : va_P (dC, dI) vwCl [(w0, .inr (1, [.ref wR, .ref wK, .ref wM, .int (nI S1_9.2.2.2)])), (wR, .inl (cI, 2487, .inl S1_9.1)), (wK, .inl (cI, 5, .inl S1_9.2.1)), (wM, .inl (cI, 3, .inl S1_9.2.2.1)), (p0, .inr (2, [.ref pK, .ref pX, .ref pY, .ref pC, .ref pV, .ref pR, .ref pU, .ref pG, .ref pW, .int num, .int q, .int er, .int ky, .int sm]))] H := hP
            have hw : S1_9 = wpF (zI sm) 1 S1_7 := hw
            have hwr_8 := hw
            have hwr_8 : S1_9 = wpF (zI sm) 1 S1_7 := hwr_8
            exact W.vret hx hb hr (fun t ht hW => ⟨⟨S1_9, rfl, (by rw [hwr_8, hwr_6, hwr_4, hwr_2] <;> rfl), by show va_P _ _ _ t.heap; rw [ht]; exact hP.sub [0, 1, 2, 3] rfl⟩, hS.F ht⟩) hS.2.2 dX1_startBand_81
          refine lv_if_eq (tgt := 76) hx hb dX1_startBand_69 (by decide) (fun c69 => ?_) (fun c69 => ?_)
          · skip
            refine lv_iconst (v := 0) hx hb dX1_startBand_76 (by decide) ?_
            refine lv_topr (show _ = zI sm from (by rw [zI, if_pos c69])) ?_
            exact J77 _ _ _ hP hS (lv_sub hl [0, 1, 2] rfl)
          · skip
            refine lv_iconst (v := 1) hx hb dX1_startBand_72 (by decide) ?_
            refine lv_topr (show _ = zI sm from (by rw [zI, if_neg c69])) ?_
            refine lv_goto (tgt := 77) hx hb dX1_startBand_73 (by decide) ?_
            exact J77 _ _ _ hP hS (lv_sub hl [0, 1, 2] rfl)
        refine lv_if_eq (tgt := 49) hx hb dX1_startBand_42 (by decide) (fun c42 => ?_) (fun c42 => ?_)
        · skip
          refine lv_iconst (v := 0) hx hb dX1_startBand_49 (by decide) ?_
          refine lv_topr (show _ = zI ky from (by rw [zI, if_pos c42])) ?_
          exact J50 _ _ _ hP hS (lv_sub hl [0, 1, 2] rfl)
        · skip
          refine lv_iconst (v := 1) hx hb dX1_startBand_45 (by decide) ?_
          refine lv_topr (show _ = zI ky from (by rw [zI, if_neg c42])) ?_
          refine lv_goto (tgt := 50) hx hb dX1_startBand_46 (by decide) ?_
          exact J50 _ _ _ hP hS (lv_sub hl [0, 1, 2] rfl)
      · skip
        have c4 : ¬ 5 ≤ i := fun z => c4 ((nI_leI (a := 5) (b := i) (by omega) (by omega)).mpr z)
        refine lv_aload_n hx hb dX1_startBand_7 rfl (lv_at hl 1 rfl) ?_
        refine va_get (D := (dC, dI)) (ci := 1) (v := .ref wK) (C := RX1) (T := TX1) (N := 4) hx hb hts hinX1 hown hK hP 0 rfl rfl 1 (by decide) (hts (.fieldLink RX1 15 "GreyReel$PacketWriter" "kindRow" "[I") (List.mem_of_getElem? (i := 1) (by decide +kernel))) (fun _ h9 => h9) rfl dX1_startBand_8 ?_
        refine lv_iload_n hx hb dX1_startBand_11 rfl (lv_at hl 0 rfl) ?_
        refine lv_iload_n hx hb dX1_startBand_12 rfl (lv_at hl 0 rfl) ?_
        refine wa_iast (D := (dC, dI)) (i := i) (f := k1) hx hb hK hP (hN.D rfl) hS (List.mem_of_getElem? (i := 2) rfl) 2 0 rfl rfl (by omega) (by omega) dX1_startBand_13 (fun H locs hP hS => ?_)
        obtain ⟨f_10, ef_10⟩ : ∃ z, z = upd k1 i (nI i) := ⟨_, rfl⟩
        rw [← ef_10] at hP
        have hP : va_P (dC, dI) vwCl [(w0, .inr (1, [.ref wR, .ref wK, .ref wM, .int (nI S.2.2.2)])), (wR, .inl (cI, 2487, .inl S.1)), (wK, .inl (cI, 5, .inl f_10)), (wM, .inl (cI, 3, .inl S.2.2.1)), (p0, .inr (2, [.ref pK, .ref pX, .ref pY, .ref pC, .ref pV, .ref pR, .ref pU, .ref pG, .ref pW, .int num, .int q, .int er, .int ky, .int sm]))] H := hP
        refine lv_iinc (v := nI (i + 1)) (lv' := [(2, .int (nI (i + 1))), (0, .ref w0), (1, .ref p0)]) hx hb dX1_startBand_14 hl (k := 0) rfl (show nI i + Int32.ofInt 1 = nI (i + 1) from nI_add _ _) (by decide) rfl (fun ls hl => ?_)
        refine lv_goto (tgt := 2) hx hb dX1_startBand_17 (by decide) ?_
        exact ih2 (i + 1) f_10 (by omega) (by omega) (by rw [ef_10, ek1]; exact fillTo_s _ _ _ rfl) _ _ _ hP hS (lv_sub hl [0, 1, 2] rfl)
  exact L2 (5 + 1) 0 S.2.1 (by omega) (Nat.lt_succ_self _) (fillTo_0 _ _).symm _ _ _ hP hS (lv_sub hl [0, 1, 2] rfl)
set_option maxHeartbeats 4000000 in
set_option maxRecDepth 100000 in
theorem C_X1_write (l : Launch) (dC : Nat → ClassId) (dI : Nat → Nat → Nat) (cI cZ cP : ClassId) (N0 tO : Nat) (w0 wR wK wM : Nat) (S : WST) (p0 pK pX pY pC pV pR pU pG pW : Nat) (num q er ky sm : Int32) (kd : Nat → Nat) (fx fy fv : Nat → Int32) (ub : Nat → Nat) (hkd : ∀ j, j < 12 → kd j < 5) : Met l yX1_write wsX1_write ({ frames := 5, cells := 0, slots := 0, locals := 117 } : Room) (Gv (dC, dI) cI cZ cP N0 tO [.ref w0, .ref p0] (fun H => va_P (dC, dI) vwCl [(w0, .inr (1, [.ref wR, .ref wK, .ref wM, .int (nI S.2.2.2)])), (wR, .inl (cI, 2487, .inl S.1)), (wK, .inl (cI, 5, .inl S.2.1)), (wM, .inl (cI, 3, .inl S.2.2.1)), (p0, .inr (2, [.ref pK, .ref pX, .ref pY, .ref pC, .ref pV, .ref pR, .ref pU, .ref pG, .ref pW, .int num, .int q, .int er, .int ky, .int sm])), (pK, .inl (cI, 12, .inl (fun k => nI (kd k)))), (pX, .inl (cI, 12, .inl fx)), (pY, .inl (cI, 12, .inl fy)), (pV, .inl (cI, 768, .inl fv)), (pU, .inl (cI, 3, .inl (fun k => nI (ub k))))] H ∧ AD N0 [w0, wR, wK, wM, p0, pK, pX, pY, pV, pU])) (va_Qv (fun (S1 : WST) => S1.1 = (wrS kd fx fy fv num ky q sm 3).1) (fun (S1 : WST) (t : State) => va_P (dC, dI) vwCl [(w0, .inr (1, [.ref wR, .ref wK, .ref wM, .int (nI S1.2.2.2)])), (wR, .inl (cI, 2487, .inl S1.1)), (wK, .inl (cI, 5, .inl S1.2.1)), (wM, .inl (cI, 3, .inl S1.2.2.1)), (pU, .inl (cI, 3, .inl (fun k => nI ((ubF kd fx fy fv num ky q sm) k))))] t.heap) (inL [w0, wR, wK, wM, pU])) 0 0 (inL [w0, wR, wK, wM, pU]) := by
  refine Met.ofW (cc := cX1_write) (maxL := 5) (ret := none) (by decide) rfl ?_
  intro p e s m args below meth c s₁ B hml hv
  obtain ⟨rfl, hE, hP, hN⟩ := hv
  have hx := B.exec
  have hb := B.bytes
  have hr := B.returns
  have hts := atoms_spec (ws := wsX1_write) B.pre
  have hown : s.vm.findClass RX1 = some m.cls := findClass_of_methodNamed B.named
  have hlocks := B.notSynchronized
  have hK := hE.1
  have hNS := hE.2.1
  have hS : va_S (inL [w0, wR, wK, wM, pU]) s.heap s.heap [] := va_S.rf
  have hAN : ∀ q : Nat, (inL [w0, wR, wK, wM, pU]) q → N0 ≤ q := fun q h => hN.in [0, 1, 2, 3, 9] rfl q h
  have hP : va_P (dC, dI) vwCl [(w0, .inr (1, [.ref wR, .ref wK, .ref wM, .int (nI S.2.2.2)])), (wR, .inl (cI, 2487, .inl S.1)), (wK, .inl (cI, 5, .inl S.2.1)), (wM, .inl (cI, 3, .inl S.2.2.1)), (p0, .inr (2, [.ref pK, .ref pX, .ref pY, .ref pC, .ref pV, .ref pR, .ref pU, .ref pG, .ref pW, .int num, .int q, .int er, .int ky, .int sm])), (pK, .inl (cI, 12, .inl (fun k => nI (kd k)))), (pX, .inl (cI, 12, .inl fx)), (pY, .inl (cI, 12, .inl fy)), (pV, .inl (cI, 768, .inl fv)), (pU, .inl (cI, 3, .inl (fun k => nI (ub k))))] s.heap := hP
  have hinX1 : ∀ w ∈ wsX10, w ∈ wsX1_write := by decide +kernel
  have hinX2 : ∀ w ∈ wsX20, w ∈ wsX1_write := by decide +kernel
  have hl := lv_entry ([.ref w0, .ref p0]) (n := 5) (Nat.le_of_ble_eq_true rfl)
  rw [lg_entry_eq]
  generalize (lg_sl ([.ref w0, .ref p0]) ++ List.replicate (5 - (lg_sl ([.ref w0, .ref p0])).length) Slot.unset).toArray = ls at hl ⊢
  have hl : lv_has ls 5 [(0, .ref w0), (1, .ref p0)] := hl
  refine lv_aload_n hx hb dX1_write_0 rfl (lv_at hl 0 rfl) ?_
  refine va_get (D := (dC, dI)) (ci := 1) (v := .ref wR) (C := RX1) (T := TX1) (N := 4) hx hb hts hinX1 hown hK hP 0 rfl rfl 0 (by decide) (hts (.fieldLink RX1 11 "GreyReel$PacketWriter" "row" "[I") (List.mem_of_getElem? (i := 1) (by decide +kernel))) (fun _ h9 => h9) rfl dX1_write_1 ?_
  refine lv_iconst (v := 0) hx hb dX1_write_4 (by decide) ?_
  refine va_callv (va_runS (As := [.ref wR, .int 0]) (rest := []) ⟨hx, hb, hml, hown, hts⟩ (C_J7_fill_53178 l dC dI cI cZ cP N0 tO wR 2487 S.1 0 (by decide)) (va_cwS 2 hts gX1_write_J7_fill_53178 rfl rfl rfl (by decide +kernel) ⟨Nat.le_of_ble_eq_true rfl, Nat.le_of_ble_eq_true rfl⟩) ⟨Gv.blind, Gv.of (hE.S hS hAN) ⟨(hP.sub [1] rfl), hN.sub [1] (by decide) rfl⟩⟩ rfl rfl hl.1 rfl (lv_room (Nat.le_of_ble_eq_true rfl)) dX1_write_5 ⟨Nat.le_of_ble_eq_true rfl, Nat.le_of_ble_eq_true rfl⟩) hS (fun q _ h => inL_sub [1] rfl q h) (inL_sub [1] rfl) (fun u t H locs ht hvm hw hB hz1 hk1 hS => ?_)
  rw [ht] at hB
  have hP := va_back (L := [wR]) hP hN rfl [1] rfl rfl (fun q h1 h2 => hk1 q h1 h2) hB
  clear hB hk1 hz1 hvm ht t
  have hP : va_P (dC, dI) vwCl [(w0, .inr (1, [.ref wR, .ref wK, .ref wM, .int (nI S.2.2.2)])), (wR, .inl (cI, 2487, .inl (fun _ => 0))), (wK, .inl (cI, 5, .inl S.2.1)), (wM, .inl (cI, 3, .inl S.2.2.1)), (p0, .inr (2, [.ref pK, .ref pX, .ref pY, .ref pC, .ref pV, .ref pR, .ref pU, .ref pG, .ref pW, .int num, .int q, .int er, .int ky, .int sm])), (pK, .inl (cI, 12, .inl (fun k => nI (kd k)))), (pX, .inl (cI, 12, .inl fx)), (pY, .inl (cI, 12, .inl fy)), (pV, .inl (cI, 768, .inl fv)), (pU, .inl (cI, 3, .inl (fun k => nI (ub k))))] H := hP
  have hw : True := hw
  have hwr_1 := hw
  refine lv_aload_n hx hb dX1_write_8 rfl (lv_at hl 0 rfl) ?_
  refine lv_iconst (v := 0) hx hb dX1_write_9 (by decide) ?_
  refine wa_put (D := (dC, dI)) (ci := 1) (v := .int 0) (ty := .int) (C := RX1) (T := TX1) (N := 4) hx hb hts hinX1 tyX1 tyX1_ok nmX1 hown hK hP (hN.D rfl) hS (List.mem_of_getElem? (i := 0) rfl) 0 rfl rfl 3 (by decide) (hts (.fieldLink RX1 21 "GreyReel$PacketWriter" "bitsWritten" "I") (List.mem_of_getElem? (i := 2) (by decide +kernel))) (fun _ h9 => h9) rfl (by decide +kernel) rfl rfl (Nat.le_of_ble_eq_true rfl) dX1_write_10 (fun H locs hP hS => ?_)
  have hP : va_P (dC, dI) vwCl [(w0, .inr (1, [.ref wR, .ref wK, .ref wM, .int 0])), (wR, .inl (cI, 2487, .inl (fun _ => 0))), (wK, .inl (cI, 5, .inl S.2.1)), (wM, .inl (cI, 3, .inl S.2.2.1)), (p0, .inr (2, [.ref pK, .ref pX, .ref pY, .ref pC, .ref pV, .ref pR, .ref pU, .ref pG, .ref pW, .int num, .int q, .int er, .int ky, .int sm])), (pK, .inl (cI, 12, .inl (fun k => nI (kd k)))), (pX, .inl (cI, 12, .inl fx)), (pY, .inl (cI, 12, .inl fy)), (pV, .inl (cI, 768, .inl fv)), (pU, .inl (cI, 3, .inl (fun k => nI (ub k))))] H := hP
  rw [← upTo_0 (ubF kd fx fy fv num ky q sm) ub] at hP
  have hP : va_P (dC, dI) vwCl [(w0, .inr (1, [.ref wR, .ref wK, .ref wM, .int 0])), (wR, .inl (cI, 2487, .inl (fun _ => 0))), (wK, .inl (cI, 5, .inl S.2.1)), (wM, .inl (cI, 3, .inl S.2.2.1)), (p0, .inr (2, [.ref pK, .ref pX, .ref pY, .ref pC, .ref pV, .ref pR, .ref pU, .ref pG, .ref pW, .int num, .int q, .int er, .int ky, .int sm])), (pK, .inl (cI, 12, .inl (fun k => nI (kd k)))), (pX, .inl (cI, 12, .inl fx)), (pY, .inl (cI, 12, .inl fy)), (pV, .inl (cI, 768, .inl fv)), (pU, .inl (cI, 3, .inl (fun k => nI (upTo (ubF kd fx fy fv num ky q sm) ub 0 k))))] H := hP
  refine lv_iconst (v := 0) hx hb dX1_write_13 (by decide) ?_
  refine lv_istore_n (lv' := [(2, .int 0), (0, .ref w0), (1, .ref p0)]) hx hb dX1_write_14 rfl hl (by decide) rfl (fun ls hl => ?_)
  have L15 : ∀ (n15 : Nat) (bd : Nat) (R : (Nat → Int32) × Nat) (k1 : Nat → Int32) (m1 : Nat → Int32), (bd ≤ 3) → (R = wrS kd fx fy fv num ky q sm bd) → 3 - bd < n15 → ∀ (H : Heap) (locs : List Loc) (ls : Array Slot), va_P (dC, dI) vwCl [(w0, .inr (1, [.ref wR, .ref wK, .ref wM, .int (nI R.2)])), (wR, .inl (cI, 2487, .inl R.1)), (wK, .inl (cI, 5, .inl k1)), (wM, .inl (cI, 3, .inl m1)), (p0, .inr (2, [.ref pK, .ref pX, .ref pY, .ref pC, .ref pV, .ref pR, .ref pU, .ref pG, .ref pW, .int num, .int q, .int er, .int ky, .int sm])), (pK, .inl (cI, 12, .inl (fun k => nI (kd k)))), (pX, .inl (cI, 12, .inl fx)), (pY, .inl (cI, 12, .inl fy)), (pV, .inl (cI, 768, .inl fv)), (pU, .inl (cI, 3, .inl (fun k => nI ((upTo (ubF kd fx fy fv num ky q sm) ub bd) k))))] H → va_S (inL [w0, wR, wK, wM, pU]) s.heap H locs → lv_has ls 5 [(2, .int (nI bd)), (0, .ref w0), (1, .ref p0)] → W p l e (headSpec wsX1_write ({ frames := 5, cells := 0, slots := 0, locals := 117 } : Room)).room s m ([.ref w0, .ref p0] : List Value).toArray below meth c H locs 0 0 (MQ below (va_Qv (fun (S1 : WST) => S1.1 = (wrS kd fx fy fv num ky q sm 3).1) (fun (S1 : WST) (t : State) => va_P (dC, dI) vwCl [(w0, .inr (1, [.ref wR, .ref wK, .ref wM, .int (nI S1.2.2.2)])), (wR, .inl (cI, 2487, .inl S1.1)), (wK, .inl (cI, 5, .inl S1.2.1)), (wM, .inl (cI, 3, .inl S1.2.2.1)), (pU, .inl (cI, 3, .inl (fun k => nI ((ubF kd fx fy fv num ky q sm) k))))] t.heap) (inL [w0, wR, wK, wM, pU])) ([.ref w0, .ref p0] : List Value).toArray s 0 0 (inL [w0, wR, wK, wM, pU])) (F0 m 15 ls []) := by
    intro n15
    induction n15 with
    | zero => intro bd R k1 m1 hbd hR hz; exact absurd hz (Nat.not_lt_zero _)
    | succ n15 ih15 =>
      intro bd R k1 m1 hbd hR hfu H locs ls hP hS hl
      have hRn := wrS_n kd fx fy fv num ky q sm bd
      rw [← hR] at hRn
      refine lv_iload_n hx hb dX1_write_15 rfl (lv_at hl 0 rfl) ?_
      refine lv_iconst (v := 3) hx hb dX1_write_16 (by decide) ?_
      refine lv_icmp_ge (tgt := 88) hx hb dX1_write_17 (by decide) (fun c17 => ?_) (fun c17 => ?_)
      · skip
        have c17 : 3 ≤ bd := (nI_leI (a := 3) (b := bd) (by omega) (by omega)).mp c17
        obtain rfl : bd = 3 := by omega
        have hP := hP.cong 9 (fun k => nI (ubF kd fx fy fv num ky q sm k)) rfl (fun k hk => congrArg nI (upTo_at _ _ hk))
        have hP : va_P (dC, dI) vwCl [(w0, .inr (1, [.ref wR, .ref wK, .ref wM, .int (nI R.2)])), (wR, .inl (cI, 2487, .inl R.1)), (wK, .inl (cI, 5, .inl k1)), (wM, .inl (cI, 3, .inl m1)), (p0, .inr (2, [.ref pK, .ref pX, .ref pY, .ref pC, .ref pV, .ref pR, .ref pU, .ref pG, .ref pW, .int num, .int q, .int er, .int ky, .int sm])), (pK, .inl (cI, 12, .inl (fun k => nI (kd k)))), (pX, .inl (cI, 12, .inl fx)), (pY, .inl (cI, 12, .inl fy)), (pV, .inl (cI, 768, .inl fv)), (pU, .inl (cI, 3, .inl (fun k => nI (ubF kd fx fy fv num ky q sm k))))] H := hP
        exact W.vret hx hb hr (fun t ht hW => ⟨⟨(R.1, k1, m1, R.2), rfl, (show R.1 = _ by rw [hR]), by show va_P _ _ _ t.heap; rw [ht]; exact hP.sub [0, 1, 2, 3, 9] rfl⟩, hS.F ht⟩) hS.2.2 dX1_write_88
      · skip
        have c17 : ¬ 3 ≤ bd := fun z => c17 ((nI_leI (a := 3) (b := bd) (by omega) (by omega)).mpr z)
        refine lv_aload_n hx hb dX1_write_20 rfl (lv_at hl 1 rfl) ?_
        refine va_get (D := (dC, dI)) (ci := 1) (v := .int (nI R.2)) (C := RX1) (T := TX1) (N := 4) hx hb hts hinX1 hown hK hP 0 rfl rfl 3 (by decide) (hts (.fieldLink RX1 21 "GreyReel$PacketWriter" "bitsWritten" "I") (List.mem_of_getElem? (i := 2) (by decide +kernel))) (fun _ h9 => h9) rfl dX1_write_21 ?_
        refine lv_istore_n (lv' := [(3, .int (nI R.2)), (2, .int (nI bd)), (0, .ref w0), (1, .ref p0)]) hx hb dX1_write_24 rfl hl (by decide) rfl (fun ls hl => ?_)
        refine lv_aload_n hx hb dX1_write_25 rfl (lv_at hl 2 rfl) ?_
        refine lv_aload_n hx hb dX1_write_26 rfl (lv_at hl 3 rfl) ?_
        refine va_callv (va_runV (As := [.ref p0]) (rest := []) ⟨hx, hb, hml, hown, hts⟩ (C_X1_startBand l dC dI cI cZ cP N0 tO w0 wR wK wM (R.1, k1, m1, R.2) p0 pK pX pY pC pV pR pU pG pW num q er ky sm (show R.2 < 1000000 by omega)) (cwV 1 hts gX1_write_X1_startBand rfl rfl rfl (by decide +kernel) ⟨Nat.le_of_ble_eq_true rfl, Nat.le_of_ble_eq_true rfl⟩) ⟨Gv.blind, va_recv hK hP (ci := 1) (q0 := 0) rfl rfl, Gv.of (hE.S hS hAN) ⟨(hP.sub [0, 1, 2, 3, 4] rfl), hN.sub [0, 1, 2, 3, 4] (by decide) rfl⟩⟩ rfl rfl hl.1 rfl (lv_room (Nat.le_of_ble_eq_true rfl)) dX1_write_27 ⟨Nat.le_of_ble_eq_true rfl, Nat.le_of_ble_eq_true rfl⟩) hS (fun q _ h => inL_sub [0, 1, 2, 3] rfl q h) (inL_sub [0, 1, 2, 3] rfl) (fun u t H locs ht hvm hw hB hz1 hk1 hS => ?_)
        obtain ⟨S1_3, eu⟩ : ∃ z, z = u := ⟨_, rfl⟩
        subst eu
        rw [ht] at hB
        have hP := va_back (L := [w0, wR, wK, wM]) hP hN rfl [0, 1, 2, 3] rfl rfl (fun q h1 h2 => hk1 q h1 h2) hB
        clear hB hk1 hz1 hvm ht t
        have hP : va_P (dC, dI) vwCl [(w0, .inr (1, [.ref wR, .ref wK, .ref wM, .int (nI S1_3.2.2.2)])), (wR, .inl (cI, 2487, .inl S1_3.1)), (wK, .inl (cI, 5, .inl S1_3.2.1)), (wM, .inl (cI, 3, .inl S1_3.2.2.1)), (p0, .inr (2, [.ref pK, .ref pX, .ref pY, .ref pC, .ref pV, .ref pR, .ref pU, .ref pG, .ref pW, .int num, .int q, .int er, .int ky, .int sm])), (pK, .inl (cI, 12, .inl (fun k => nI (kd k)))), (pX, .inl (cI, 12, .inl fx)), (pY, .inl (cI, 12, .inl fy)), (pV, .inl (cI, 768, .inl fv)), (pU, .inl (cI, 3, .inl (fun k => nI ((upTo (ubF kd fx fy fv num ky q sm) ub bd) k))))] H := hP
        have hw : S1_3 = sbF num ky q sm (R.1, k1, m1, R.2).1 (R.1, k1, m1, R.2).2.2.2 := hw
        have hwr_2 := hw
        have hwr_2 : S1_3 = sbF num ky q sm (R.1, k1, m1, R.2).1 (R.1, k1, m1, R.2).2.2.2 := hwr_2
        refine lv_iconst (v := 0) hx hb dX1_write_30 (by decide) ?_
        refine lv_istore (lv' := [(4, .int 0), (3, .int (nI R.2)), (2, .int (nI bd)), (0, .ref w0), (1, .ref p0)]) hx hb dX1_write_31 hl (by decide) rfl (fun ls hl => ?_)
        have L33 : ∀ (n33 : Nat) (j : Nat) (T : WST), (j ≤ 4) → (T = bdS kd fx fy fv bd (sbF num ky q sm R.1 R.2) j) → 4 - j < n33 → ∀ (H : Heap) (locs : List Loc) (ls : Array Slot), va_P (dC, dI) vwCl [(w0, .inr (1, [.ref wR, .ref wK, .ref wM, .int (nI T.2.2.2)])), (wR, .inl (cI, 2487, .inl T.1)), (wK, .inl (cI, 5, .inl T.2.1)), (wM, .inl (cI, 3, .inl T.2.2.1)), (p0, .inr (2, [.ref pK, .ref pX, .ref pY, .ref pC, .ref pV, .ref pR, .ref pU, .ref pG, .ref pW, .int num, .int q, .int er, .int ky, .int sm])), (pK, .inl (cI, 12, .inl (fun k => nI (kd k)))), (pX, .inl (cI, 12, .inl fx)), (pY, .inl (cI, 12, .inl fy)), (pV, .inl (cI, 768, .inl fv)), (pU, .inl (cI, 3, .inl (fun k => nI ((upTo (ubF kd fx fy fv num ky q sm) ub bd) k))))] H → va_S (inL [w0, wR, wK, wM, pU]) s.heap H locs → lv_has ls 5 [(4, .int (nI j)), (3, .int (nI R.2)), (2, .int (nI bd)), (0, .ref w0), (1, .ref p0)] → W p l e (headSpec wsX1_write ({ frames := 5, cells := 0, slots := 0, locals := 117 } : Room)).room s m ([.ref w0, .ref p0] : List Value).toArray below meth c H locs 0 0 (MQ below (va_Qv (fun (S1 : WST) => S1.1 = (wrS kd fx fy fv num ky q sm 3).1) (fun (S1 : WST) (t : State) => va_P (dC, dI) vwCl [(w0, .inr (1, [.ref wR, .ref wK, .ref wM, .int (nI S1.2.2.2)])), (wR, .inl (cI, 2487, .inl S1.1)), (wK, .inl (cI, 5, .inl S1.2.1)), (wM, .inl (cI, 3, .inl S1.2.2.1)), (pU, .inl (cI, 3, .inl (fun k => nI ((ubF kd fx fy fv num ky q sm) k))))] t.heap) (inL [w0, wR, wK, wM, pU])) ([.ref w0, .ref p0] : List Value).toArray s 0 0 (inL [w0, wR, wK, wM, pU])) (F0 m 33 ls []) := by
          intro n33
          induction n33 with
          | zero => intro j T hj hT hz; exact absurd hz (Nat.not_lt_zero _)
          | succ n33 ih33 =>
            intro j T hj hT hfu H locs ls hP hS hl
            have hTn := bdS_n kd fx fy fv bd (sbF num ky q sm R.1 R.2) j
            rw [← hT, sbF_n] at hTn
            refine lv_iload hx hb dX1_write_33 (lv_at hl 0 rfl) ?_
            refine lv_iconst (v := 4) hx hb dX1_write_35 (by decide) ?_
            refine lv_icmp_ge (tgt := 56) hx hb dX1_write_36 (by decide) (fun c36 => ?_) (fun c36 => ?_)
            · skip
              have c36 : 4 ≤ j := (nI_leI (a := 4) (b := j) (by omega) (by omega)).mp c36
              obtain rfl : j = 4 := by omega
              refine lv_aload_n hx hb dX1_write_56 rfl (lv_at hl 4 rfl) ?_
              refine va_get (D := (dC, dI)) (ci := 2) (v := .ref pU) (C := RX2) (T := TX2) (N := 14) hx hb hts hinX2 hown hK hP 4 rfl rfl 6 (by decide) (hts (.fieldLink RX1 47 "GreyReel$Picture" "usedBits" "[I") (List.mem_of_getElem? (i := 3) (by decide +kernel))) (fun _ h9 => h9) rfl dX1_write_57 ?_
              refine lv_iload_n hx hb dX1_write_60 rfl (lv_at hl 2 rfl) ?_
              refine lv_aload_n hx hb dX1_write_61 rfl (lv_at hl 3 rfl) ?_
              refine va_get (D := (dC, dI)) (ci := 1) (v := .int (nI T.2.2.2)) (C := RX1) (T := TX1) (N := 4) hx hb hts hinX1 hown hK hP 0 rfl rfl 3 (by decide) (hts (.fieldLink RX1 21 "GreyReel$PacketWriter" "bitsWritten" "I") (List.mem_of_getElem? (i := 2) (by decide +kernel))) (fun _ h9 => h9) rfl dX1_write_62 ?_
              refine lv_iload_n hx hb dX1_write_65 rfl (lv_at hl 1 rfl) ?_
              refine lv_isub hx hb dX1_write_66 ?_
              refine lv_topr (show _ = nI (T.2.2.2 - R.2) from pk_sub (a := T.2.2.2) (b := R.2) (by omega)) ?_
              refine wa_iast (D := (dC, dI)) (i := bd) (f := (fun k => nI ((upTo (ubF kd fx fy fv num ky q sm) ub bd) k))) hx hb hK hP (hN.D rfl) hS (List.mem_of_getElem? (i := 4) rfl) 9 0 rfl rfl (by omega) (by omega) dX1_write_67 (fun H locs hP hS => ?_)
              obtain ⟨f_4, ef_4⟩ : ∃ z, z = upd (fun k => nI ((upTo (ubF kd fx fy fv num ky q sm) ub bd) k)) bd (nI (T.2.2.2 - R.2)) := ⟨_, rfl⟩
              rw [← ef_4] at hP
              have hP : va_P (dC, dI) vwCl [(w0, .inr (1, [.ref wR, .ref wK, .ref wM, .int (nI T.2.2.2)])), (wR, .inl (cI, 2487, .inl T.1)), (wK, .inl (cI, 5, .inl T.2.1)), (wM, .inl (cI, 3, .inl T.2.2.1)), (p0, .inr (2, [.ref pK, .ref pX, .ref pY, .ref pC, .ref pV, .ref pR, .ref pU, .ref pG, .ref pW, .int num, .int q, .int er, .int ky, .int sm])), (pK, .inl (cI, 12, .inl (fun k => nI (kd k)))), (pX, .inl (cI, 12, .inl fx)), (pY, .inl (cI, 12, .inl fy)), (pV, .inl (cI, 768, .inl fv)), (pU, .inl (cI, 3, .inl f_4))] H := hP
              have hz9 : f_4 = (fun k => nI (upTo (ubF kd fx fy fv num ky q sm) ub (bd + 1) k)) := by rw [ef_4, updN_eq, upTo_s _ _ _ (by rw [hT, hR]; rfl)]
              rw [hz9] at hP
              clear hz9
              have hP : va_P (dC, dI) vwCl [(w0, .inr (1, [.ref wR, .ref wK, .ref wM, .int (nI T.2.2.2)])), (wR, .inl (cI, 2487, .inl T.1)), (wK, .inl (cI, 5, .inl T.2.1)), (wM, .inl (cI, 3, .inl T.2.2.1)), (p0, .inr (2, [.ref pK, .ref pX, .ref pY, .ref pC, .ref pV, .ref pR, .ref pU, .ref pG, .ref pW, .int num, .int q, .int er, .int ky, .int sm])), (pK, .inl (cI, 12, .inl (fun k => nI (kd k)))), (pX, .inl (cI, 12, .inl fx)), (pY, .inl (cI, 12, .inl fy)), (pV, .inl (cI, 768, .inl fv)), (pU, .inl (cI, 3, .inl (fun k => nI (upTo (ubF kd fx fy fv num ky q sm) ub (bd + 1) k))))] H := hP
              have hub1 : upTo (ubF kd fx fy fv num ky q sm) ub (bd + 1) bd = T.2.2.2 - R.2 := (upTo_at _ _ (by omega)).trans (by rw [hT, hR]; rfl)
              refine lv_aload_n hx hb dX1_write_68 rfl (lv_at hl 3 rfl) ?_
              refine lv_iload_n hx hb dX1_write_69 rfl (lv_at hl 1 rfl) ?_
              refine lv_aload_n hx hb dX1_write_70 rfl (lv_at hl 4 rfl) ?_
              refine lv_iload_n hx hb dX1_write_71 rfl (lv_at hl 2 rfl) ?_
              refine vp_callSi (va_Run.run (va_runV (As := [.int (nI bd)]) (rest := [.int (nI R.2), .ref w0]) ⟨hx, hb, hml, hown, hts⟩ (C_X2_bytesIn l dC dI cI cZ cP N0 tO p0 pK pX pY pC pV pR pU pG pW num q er ky sm (upTo (ubF kd fx fy fv num ky q sm) ub (bd + 1)) bd (by omega) (by rw [hub1]; omega)) (cwV 1 hts gX1_write_X2_bytesIn rfl rfl rfl (by decide +kernel) ⟨Nat.le_of_ble_eq_true rfl, Nat.le_of_ble_eq_true rfl⟩) ⟨Gv.blind, va_recv hK hP (ci := 2) (q0 := 4) rfl rfl, Gv.of (hE.S hS hAN) (hP.sub [4, 9] rfl)⟩ rfl rfl hl.1 rfl (lv_room (Nat.le_of_ble_eq_true rfl)) dX1_write_72 ⟨Nat.le_of_ble_eq_true rfl, Nat.le_of_ble_eq_true rfl⟩)) (fun r_5 hr_5 => ?_)
              have hr_5 : r_5 = nI (((upTo (ubF kd fx fy fv num ky q sm) ub (bd + 1)) bd + 7) / 8) := hr_5
              refine lv_topr hr_5 ?_
              refine lv_topr (show _ = nI ((T.2.2.2 - R.2 + 7) / 8) from (by rw [hub1])) ?_
              refine lv_bipush (v := 8) hx hb dX1_write_75 (by decide +kernel) ?_
              refine lv_imul hx hb dX1_write_77 ?_
              refine lv_topr (show _ = nI (((T.2.2.2 - R.2 + 7) / 8) * 8) from pk_mul ((T.2.2.2 - R.2 + 7) / 8) 8) ?_
              refine lv_iadd hx hb dX1_write_78 ?_
              refine lv_topr (show _ = nI (R.2 + (((T.2.2.2 - R.2 + 7) / 8) * 8)) from nI_add R.2 (((T.2.2.2 - R.2 + 7) / 8) * 8)) ?_
              refine wa_put (D := (dC, dI)) (ci := 1) (v := .int (nI (R.2 + (((T.2.2.2 - R.2 + 7) / 8) * 8)))) (ty := .int) (C := RX1) (T := TX1) (N := 4) hx hb hts hinX1 tyX1 tyX1_ok nmX1 hown hK hP (hN.D rfl) hS (List.mem_of_getElem? (i := 0) rfl) 0 rfl rfl 3 (by decide) (hts (.fieldLink RX1 21 "GreyReel$PacketWriter" "bitsWritten" "I") (List.mem_of_getElem? (i := 2) (by decide +kernel))) (fun _ h9 => h9) rfl (by decide +kernel) rfl rfl (Nat.le_of_ble_eq_true rfl) dX1_write_79 (fun H locs hP hS => ?_)
              have hP : va_P (dC, dI) vwCl [(w0, .inr (1, [.ref wR, .ref wK, .ref wM, .int (nI (R.2 + (((T.2.2.2 - R.2 + 7) / 8) * 8)))])), (wR, .inl (cI, 2487, .inl T.1)), (wK, .inl (cI, 5, .inl T.2.1)), (wM, .inl (cI, 3, .inl T.2.2.1)), (p0, .inr (2, [.ref pK, .ref pX, .ref pY, .ref pC, .ref pV, .ref pR, .ref pU, .ref pG, .ref pW, .int num, .int q, .int er, .int ky, .int sm])), (pK, .inl (cI, 12, .inl (fun k => nI (kd k)))), (pX, .inl (cI, 12, .inl fx)), (pY, .inl (cI, 12, .inl fy)), (pV, .inl (cI, 768, .inl fv)), (pU, .inl (cI, 3, .inl (fun k => nI (upTo (ubF kd fx fy fv num ky q sm) ub (bd + 1) k))))] H := hP
              refine lv_iinc (v := nI (bd + 1)) (lv' := [(2, .int (nI (bd + 1))), (4, .int (nI 4)), (3, .int (nI R.2)), (0, .ref w0), (1, .ref p0)]) hx hb dX1_write_82 hl (k := 2) rfl (show nI bd + Int32.ofInt 1 = nI (bd + 1) from nI_add _ _) (by decide) rfl (fun ls hl => ?_)
              refine lv_goto (tgt := 15) hx hb dX1_write_85 (by decide) ?_
              exact ih15 (bd + 1) (T.1, R.2 + (((T.2.2.2 - R.2 + 7) / 8) * 8)) T.2.1 T.2.2.1 (by omega) (by rw [hT, hR]; rfl) (by omega) _ _ _ hP hS (lv_sub hl [0, 3, 4] rfl)
            · skip
              have c36 : ¬ 4 ≤ j := fun z => c36 ((nI_leI (a := 4) (b := j) (by omega) (by omega)).mpr z)
              refine lv_aload_n hx hb dX1_write_39 rfl (lv_at hl 3 rfl) ?_
              refine lv_aload_n hx hb dX1_write_40 rfl (lv_at hl 4 rfl) ?_
              refine lv_iload_n hx hb dX1_write_41 rfl (lv_at hl 2 rfl) ?_
              refine lv_iconst (v := 4) hx hb dX1_write_42 (by decide) ?_
              refine lv_imul hx hb dX1_write_43 ?_
              refine lv_topr (show _ = nI (bd * 4) from pk_mul bd 4) ?_
              refine lv_iload hx hb dX1_write_44 (lv_at hl 0 rfl) ?_
              refine lv_iadd hx hb dX1_write_46 ?_
              refine lv_topr (show _ = nI ((bd * 4) + j) from nI_add (bd * 4) j) ?_
              refine va_callv (va_runV (As := [.ref p0, .int (nI ((bd * 4) + j))]) (rest := []) ⟨hx, hb, hml, hown, hts⟩ (C_X1_writeBlock l dC dI cI cZ cP N0 tO w0 wR wK wM T p0 pK pX pY pC pV pR pU pG pW num q er ky sm kd fx fy fv ((bd * 4) + j) (by omega) (by omega) hkd) (cwV 2 hts gX1_write_X1_writeBlock rfl rfl rfl (by decide +kernel) ⟨Nat.le_of_ble_eq_true rfl, Nat.le_of_ble_eq_true rfl⟩) ⟨Gv.blind, va_recv hK hP (ci := 1) (q0 := 0) rfl rfl, Gv.of (hE.S hS hAN) ⟨(hP.sub [0, 1, 2, 3, 4, 5, 6, 7, 8] rfl), hN.sub [0, 1, 2, 3, 4, 5, 6, 7, 8] (by decide) rfl⟩⟩ rfl rfl hl.1 rfl (lv_room (Nat.le_of_ble_eq_true rfl)) dX1_write_47 ⟨Nat.le_of_ble_eq_true rfl, Nat.le_of_ble_eq_true rfl⟩) hS (fun q _ h => inL_sub [0, 1, 2, 3] rfl q h) (inL_sub [0, 1, 2, 3] rfl) (fun u t H locs ht hvm hw hB hz1 hk1 hS => ?_)
              obtain ⟨S1_7, eu⟩ : ∃ z, z = u := ⟨_, rfl⟩
              subst eu
              rw [ht] at hB
              have hP := va_back (L := [w0, wR, wK, wM]) hP hN rfl [0, 1, 2, 3] rfl rfl (fun q h1 h2 => hk1 q h1 h2) hB
              clear hB hk1 hz1 hvm ht t
              have hP : va_P (dC, dI) vwCl [(w0, .inr (1, [.ref wR, .ref wK, .ref wM, .int (nI S1_7.2.2.2)])), (wR, .inl (cI, 2487, .inl S1_7.1)), (wK, .inl (cI, 5, .inl S1_7.2.1)), (wM, .inl (cI, 3, .inl S1_7.2.2.1)), (p0, .inr (2, [.ref pK, .ref pX, .ref pY, .ref pC, .ref pV, .ref pR, .ref pU, .ref pG, .ref pW, .int num, .int q, .int er, .int ky, .int sm])), (pK, .inl (cI, 12, .inl (fun k => nI (kd k)))), (pX, .inl (cI, 12, .inl fx)), (pY, .inl (cI, 12, .inl fy)), (pV, .inl (cI, 768, .inl fv)), (pU, .inl (cI, 3, .inl (fun k => nI ((upTo (ubF kd fx fy fv num ky q sm) ub bd) k))))] H := hP
              have hw : S1_7 = wbF kd fx fy fv ((bd * 4) + j) T := hw
              have hwr_6 := hw
              have hwr_6 : S1_7 = wbF kd fx fy fv ((bd * 4) + j) T := hwr_6
              refine lv_iinc (v := nI (j + 1)) (lv' := [(4, .int (nI (j + 1))), (3, .int (nI R.2)), (2, .int (nI bd)), (0, .ref w0), (1, .ref p0)]) hx hb dX1_write_50 hl (k := 0) rfl (show nI j + Int32.ofInt 1 = nI (j + 1) from nI_add _ _) (by decide) rfl (fun ls hl => ?_)
              refine lv_goto (tgt := 33) hx hb dX1_write_53 (by decide) ?_
              exact ih33 (j + 1) S1_7 (by omega) (by rw [hwr_6, hT]; rfl) (by omega) _ _ _ hP hS (lv_sub hl [0, 1, 2, 3, 4] rfl)
        exact L33 (4 + 1) 0 S1_3 (by omega) (hwr_2) (Nat.lt_succ_self _) _ _ _ hP hS (lv_sub hl [0, 1, 2, 3, 4] rfl)
  exact L15 (3 + 1) 0 ((fun _ => 0), 0) S.2.1 S.2.2.1 (by omega) rfl (Nat.lt_succ_self _) _ _ _ hP hS (lv_sub hl [0, 1, 2] rfl)
