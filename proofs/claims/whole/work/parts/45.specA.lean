/-! SPECS A: what the memory's writes do to its reads; methods of numbers alone -/
theorem gi_setl (μ : SMem) (a k : Nat) (x : Int64) : gi (setl μ a k x) = gi μ := rfl
theorem gi_setr (μ : SMem) (a k : Nat) (x : Nat) : gi (setr μ a k x) = gi μ := rfl
theorem gr_seti (μ : SMem) (a k : Nat) (x : Int32) : gr (seti μ a k x) = gr μ := rfl
theorem gr_setl (μ : SMem) (a k : Nat) (x : Int64) : gr (setl μ a k x) = gr μ := rfl
theorem gr_setrow (μ : SMem) (a : Nat) (f : Nat → Int32) : gr (setrow μ a f) = gr μ := rfl
theorem gl_seti (μ : SMem) (a k : Nat) (x : Int32) : gl (seti μ a k x) = gl μ := rfl
theorem gl_setr (μ : SMem) (a k : Nat) (x : Nat) : gl (setr μ a k x) = gl μ := rfl
theorem gl_setrow (μ : SMem) (a : Nat) (f : Nat → Int32) : gl (setrow μ a f) = gl μ := rfl
theorem tg_seti (μ : SMem) (a k : Nat) (x : Int32) : tg (seti μ a k x) = tg μ := rfl
theorem tg_setr (μ : SMem) (a k : Nat) (x : Nat) : tg (setr μ a k x) = tg μ := rfl
theorem tg_setl (μ : SMem) (a k : Nat) (x : Int64) : tg (setl μ a k x) = tg μ := rfl
theorem tg_setrow (μ : SMem) (a : Nat) (f : Nat → Int32) : tg (setrow μ a f) = tg μ := rfl
theorem ln_seti (μ : SMem) (a k : Nat) (x : Int32) : ln (seti μ a k x) = ln μ := rfl
theorem ln_setr (μ : SMem) (a k : Nat) (x : Nat) : ln (setr μ a k x) = ln μ := rfl
theorem ln_setl (μ : SMem) (a k : Nat) (x : Int64) : ln (setl μ a k x) = ln μ := rfl
theorem ln_setrow (μ : SMem) (a : Nat) (f : Nat → Int32) : ln (setrow μ a f) = ln μ := rfl
theorem sz_seti (μ : SMem) (a k : Nat) (x : Int32) : sz (seti μ a k x) = sz μ := rfl
theorem sz_setr (μ : SMem) (a k : Nat) (x : Nat) : sz (setr μ a k x) = sz μ := rfl
theorem sz_setl (μ : SMem) (a k : Nat) (x : Int64) : sz (setl μ a k x) = sz μ := rfl
theorem sz_setrow (μ : SMem) (a : Nat) (f : Nat → Int32) : sz (setrow μ a f) = sz μ := rfl
theorem sl_seti (μ : SMem) (a k : Nat) (x : Int32) : sl (seti μ a k x) = sl μ := rfl
theorem sl_setr (μ : SMem) (a k : Nat) (x : Nat) : sl (setr μ a k x) = sl μ := rfl
theorem sl_setl (μ : SMem) (a k : Nat) (x : Int64) : sl (setl μ a k x) = sl μ := rfl
theorem sl_setrow (μ : SMem) (a : Nat) (f : Nat → Int32) : sl (setrow μ a f) = sl μ := rfl
theorem br0 (c : Prop) [Decidable c] : ((if c then (1 : Int32) else 0) = 0) = ¬ c := by by_cases h : c <;> simp [h]
theorem br1 (c : Prop) [Decidable c] : ((if c then (1 : Int32) else 0) ≠ 0) = c := by by_cases h : c <;> simp [h]
theorem br2 (c : Prop) [Decidable c] : ((if c then (1 : Int32) else 0) ≠ 1) = ¬ c := by by_cases h : c <;> simp [h]
theorem zr01 (c : Prop) [Decidable c] : ((if c then (1 : Int32) else 0) = 0 ∨ (if c then (1 : Int32) else 0) = 1) = True := by by_cases h : c <;> simp [h]
theorem br3 (c : Prop) [Decidable c] : ((if c then (1 : Int32) else 0) = 1) = c := by by_cases h : c <;> simp [h]
theorem zr02 (c : Prop) : (¬ c ∨ c) = True := eq_true ((Classical.em c).symm)
theorem lgc_lt (x y : Int64) : (lg_cmp x y < 0) = (x < y) := by
  have := lg_cmp_ge x y
  rw [eq_iff_iff, ← Int32.not_le, this, Int64.not_le]
theorem lgc_gt (x y : Int64) : (0 < lg_cmp x y) = (y < x) := by
  unfold lg_cmp
  by_cases h : x > y
  · have h' : y < x := h
    simp [h, h']
  · have h' : ¬ y < x := h
    by_cases h2 : x = y <;> simp [h, h', h2]
theorem l_le (x y : Int32) : (x.toInt64 ≤ y.toInt64) = (x ≤ y) := by
  rw [eq_iff_iff, Int64.le_iff_toInt_le, Int32.le_iff_toInt_le, Int32.toInt_toInt64, Int32.toInt_toInt64]
theorem l_lt (x y : Int32) : (x.toInt64 < y.toInt64) = (x < y) := by
  rw [eq_iff_iff, Int64.lt_iff_toInt_lt, Int32.lt_iff_toInt_lt, Int32.toInt_toInt64, Int32.toInt_toInt64]
/-- isIn(v, least, most) -/
theorem f139 {d : Nat} {v lo hi : Int64} {μ : SMem} : cl d 139 [Sum.inr (Sum.inr (v)), Sum.inr (Sum.inr (lo)), Sum.inr (Sum.inr (hi))] μ = some (Sum.inl (some (Sum.inl (if lo ≤ v ∧ v ≤ hi then 1 else 0))), μ) := by
  show rn d 139 0 [some (Sum.inr (Sum.inr (v))), none, some (Sum.inr (Sum.inr (lo))), none, some (Sum.inr (Sum.inr (hi))), none] [] μ = _
  simp only [st139_0, st139_1, st139_2, st139_3, st139_4, st139_5, st139_6, st139_7, st139_8, st139_9, st139_10, st139_11, lgc_lt, lgc_gt]
  by_cases h1 : v < lo
  · simp [h1, Int64.not_le.mpr h1]
  · by_cases h2 : hi < v
    · simp [h1, h2, Int64.not_le.mpr h2]
    · simp [h1, h2, Int64.not_lt.mp h1, Int64.not_lt.mp h2]
/-- isShelf(d) -/
theorem f140 {d : Nat} {x : Int32} {μ : SMem} : cl (d + 1) 140 [Sum.inl (x)] μ = some (Sum.inl (some (Sum.inl (if 0 ≤ x ∧ x < 8 then 1 else 0))), μ) := by
  show rn (d + 1) 140 0 [some (Sum.inl (x))] [] μ = _
  simp only [st140_0, st140_1, st140_2, st140_3, st140_4, st140_5, f139, aft_some, Option.toList_some, Option.toList_none, List.cons_append, List.nil_append, br0, br1, br2, br3, zr01, zr02]
  have e1 : ((0 : Int64) ≤ x.toInt64) = (0 ≤ x) := l_le 0 x
  have e2 : (x.toInt64 ≤ (7 : Int64)) = (x < 8) := by
    rw [show (7 : Int64) = (7 : Int32).toInt64 from rfl, l_le, eq_iff_iff, Int32.le_iff_toInt_le, Int32.lt_iff_toInt_lt]
    have a : (7 : Int32).toInt = 7 := rfl
    have b : (8 : Int32).toInt = 8 := rfl
    omega
  simp only [e1, e2, if_true]
/-- the least page of a set: from p on, k pages -/
def lstF (n : Nat) : Nat → Nat → Int32
  | _, 0 => -4
  | p, k + 1 => if n.testBit p then E p else lstF n (p + 1) k
theorem f134_lp {d n : Nat} (hn : n < 256) {μ : SMem} : ∀ k p, p + k = 8 → rn d 134 2 [some (Sum.inl (E n)), some (Sum.inl (E p))] [] μ = some (Sum.inl (some (Sum.inl (lstF n p k))), μ) := by
  intro k
  induction k with
  | zero =>
    intro p hp
    have : p = 8 := by omega
    subst this
    rw [st134_2]
    simp only [st134_0, st134_1, st134_3, st134_4, st134_5, st134_6, st134_7, st134_8, st134_9, st134_10, st134_11, st134_12, st134_13, st134_14, st134_15, st134_16, show (8 : Int32) ≤ E 8 from by decide, if_true]
    rfl
  | succ k ih =>
    intro p hp
    have hp8 : p < 8 := by omega
    have hc : ¬ (8 : Int32) ≤ E p := by rw [show (8 : Int32) = E 8 from rfl, E_le (by decide) (by omega)]; omega
    rw [st134_2]
    simp only [st134_0, st134_1, st134_3, st134_4, st134_5, st134_6, st134_7, st134_8, st134_9, st134_10, st134_11, st134_12, st134_13, st134_14, st134_15, st134_16, hc, if_false, E_bit n hn p hp8]
    unfold lstF
    by_cases hb : n.testBit p
    · simp [hb]
    · simp only [hb]
      simp [show E p + 1 = E (p + 1) from E_add p 1, ih (p + 1) (by omega)]
theorem f134 {d n : Nat} (hn : n < 256) {μ : SMem} : cl d 134 [Sum.inl (E n)] μ = some (Sum.inl (some (Sum.inl (lstF n 0 8))), μ) := by
  show rn d 134 0 [some (Sum.inl (E n)), none] [] μ = _
  simp only [st134_0, st134_1]
  exact f134_lp hn 8 0 rfl
/-- the model's -/
theorem f154_lp {d n : Nat} (hn : n < 256) {μ : SMem} : ∀ k p, p + k = 8 → rn d 154 2 [some (Sum.inl (E n)), some (Sum.inl (E p))] [] μ = some (Sum.inl (some (Sum.inl (lstF n p k))), μ) := by
  intro k
  induction k with
  | zero =>
    intro p hp
    have : p = 8 := by omega
    subst this
    rw [st154_2]
    simp only [st154_0, st154_1, st154_3, st154_4, st154_5, st154_6, st154_7, st154_8, st154_9, st154_10, st154_11, st154_12, st154_13, st154_14, st154_15, st154_16, st154_17, show (8 : Int32) ≤ E 8 from by decide, if_true]
    rfl
  | succ k ih =>
    intro p hp
    have hp8 : p < 8 := by omega
    have hc : ¬ (8 : Int32) ≤ E p := by rw [show (8 : Int32) = E 8 from rfl, E_le (by decide) (by omega)]; omega
    rw [st154_2]
    simp only [st154_0, st154_1, st154_3, st154_4, st154_5, st154_6, st154_7, st154_8, st154_9, st154_10, st154_11, st154_12, st154_13, st154_14, st154_15, st154_16, st154_17, hc, if_false, E_bit n hn p hp8]
    unfold lstF
    by_cases hb : n.testBit p
    · simp [hb]
    · simp only [hb]
      simp [show E p + 1 = E (p + 1) from E_add p 1, ih (p + 1) (by omega)]
theorem f154 {d n : Nat} (hn : n < 256) {μ : SMem} : cl d 154 [Sum.inl (E n)] μ = some (Sum.inl (some (Sum.inl (lstF n 0 8))), μ) := by
  show rn d 154 0 [some (Sum.inl (E n)), none] [] μ = _
  simp only [st154_0, st154_1]
  exact f154_lp hn 8 0 rfl
/-- the greatest page of a set, of the first k pages -/
def grtF (n : Nat) : Nat → Int32
  | 0 => -4
  | k + 1 => if n.testBit k then E k else grtF n k
theorem grtF_s {n : Nat} (k : Nat) : grtF n (k + 1) = if n.testBit k then E k else grtF n k := rfl
theorem f135_lp {d n : Nat} (hn : n < 256) {μ : SMem} : ∀ k, k ≤ 8 → rn d 135 2 [some (Sum.inl (E n)), some (Sum.inl (E k - 1))] [] μ = some (Sum.inl (some (Sum.inl (grtF n k))), μ) := by
  intro k
  induction k with
  | zero =>
    intro hk
    rw [st135_2]
    simp only [st135_0, st135_1, st135_3, st135_4, st135_5, st135_6, st135_7, st135_8, st135_9, st135_10, st135_11, st135_12, st135_13, st135_14, st135_15]
    simp [grtF, E]
  | succ k ih =>
    intro hk
    have e : E (k + 1) - 1 = E k := by rw [E_1, E_sub (by omega)]; rfl
    have hc : ¬ E k < 0 := Int32.not_lt.mpr (E_nonneg (by omega))
    rw [st135_2, e]
    simp only [st135_0, st135_1, st135_3, st135_4, st135_5, st135_6, st135_7, st135_8, st135_9, st135_10, st135_11, st135_12, st135_13, st135_14, st135_15, hc, if_false, E_bit n hn k (by omega)]
    unfold grtF
    by_cases hb : n.testBit k
    · simp [hb]
    · simp only [hb]
      have h2 := ih (by omega)
      rw [Int32.sub_eq_add_neg] at h2
      simp
      exact h2
theorem f135 {d n : Nat} (hn : n < 256) {μ : SMem} : cl d 135 [Sum.inl (E n)] μ = some (Sum.inl (some (Sum.inl (grtF n 8))), μ) := by
  show rn d 135 0 [some (Sum.inl (E n)), none] [] μ = _
  simp only [st135_0, st135_1]
  exact f135_lp hn 8 (by omega)
