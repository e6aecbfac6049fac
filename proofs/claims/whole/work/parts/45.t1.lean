theorem t1_hasPage {d a : Nat} {p : Int32} {μ : SMem} (h : tg μ a = 1) : cl d 7 [Sum.inr (Sum.inl a), Sum.inl p] μ = some (Sum.inl (some (Sum.inl (if 0 ≤ p ∧ p < gi μ a 2 ∧ p < 8 then 1 else 0))), μ) := by
  show rn d 7 0 [some (Sum.inr (Sum.inl a)), some (Sum.inl p)] [] μ = _
  simp only [st7_0, st7_1, st7_2, st7_3, st7_4, st7_5, st7_6, st7_7, st7_8, st7_9, st7_10, st7_11, st7_12, h]
  by_cases h1 : p < 0
  · simp [h1, Int32.not_le.mpr h1]
  · have h1' := Int32.not_lt.mp h1
    by_cases h2 : gi μ a 2 ≤ p
    · simp [h1, h2, h1', Int32.not_lt.mpr h2]
    · by_cases h3 : 8 ≤ p
      · simp [h1, h2, h3, h1', Int32.not_lt.mpr h3]
      · simp [h1, h2, h3, h1', Int32.not_le.mp h2, Int32.not_le.mp h3]
def lstF (n : Nat) : Nat → Nat → Int32
  | _, 0 => -4
  | p, k + 1 => if n.testBit p then E p else lstF n (p + 1) k
theorem t1_least_lp {d n : Nat} (hn : n < 256) {μ : SMem} : ∀ k p, p + k = 8 → rn d 134 2 [some (Sum.inl (E n)), some (Sum.inl (E p))] [] μ = some (Sum.inl (some (Sum.inl (lstF n p k))), μ) := by
  intro k
  induction k with
  | zero =>
    intro p hp
    have : p = 8 := by omega
    subst this
    rw [st134_2]
    simp only [st134_3, st134_4, st134_15, st134_16, show (8 : Int32) ≤ E 8 from by decide, if_true]
    rfl
  | succ k ih =>
    intro p hp
    have hp8 : p < 8 := by omega
    have hc : ¬ (8 : Int32) ≤ E p := by rw [show (8 : Int32) = E 8 from rfl, E_le (by decide) (by omega)]; omega
    rw [st134_2]
    simp only [st134_3, st134_4, st134_5, st134_6, st134_7, st134_8, st134_9, st134_10, st134_11, st134_12, st134_13, st134_14, hc, if_false, E_bit n hn p hp8]
    unfold lstF
    by_cases hb : n.testBit p
    · simp [hb]
    · simp only [hb]
      simp [show E p + 1 = E (p + 1) from E_add p 1, ih (p + 1) (by omega)]
