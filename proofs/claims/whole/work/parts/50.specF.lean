/-! SPECS F: towns; the class's Town against one -/
abbrev AT : Type := (Nat × Nat × Int32) × (Nat → Nat) × (Nat → Nat) × (Nat → Nat → Int32) × (Nat → Nat → Int32) × (Nat → Nat) × (Nat → Nat)
def bcA (A : AT) : Nat := A.1.1
def rcA (A : AT) : Nat := A.1.2.1
def dyA (A : AT) : Int32 := A.1.2.2
def pgA (A : AT) : Nat → Nat := A.2.1
def inA (A : AT) : Nat → Nat := A.2.2.1
def ndA (A : AT) : Nat → Nat → Int32 := A.2.2.2.1
def hoA (A : AT) : Nat → Nat → Int32 := A.2.2.2.2.1
def kdA (A : AT) : Nat → Nat := A.2.2.2.2.2.1
def fgA (A : AT) : Nat → Nat := A.2.2.2.2.2.2
/-- a town that can be -/
def WF (A : AT) : Prop := bcA A ≤ 4 ∧ rcA A ≤ 6 ∧ (∀ b, b < bcA A → 1 ≤ pgA A b ∧ pgA A b < 9 ∧ inA A b < 2 ^ pgA A b ∧ NdOK (ndA A b) ∧ (∀ p, p < 8 → (inA A b).testBit p = true → hoA A b p = -4) ∧ ∀ p, p < 8 → hoA A b p = -4 ∨ ∃ r, r < rcA A ∧ hoA A b p = E r) ∧ (∀ b, bcA A ≤ b → pgA A b = 0 ∧ inA A b = 0) ∧ ∀ r, r < rcA A → kdA A r < 8 ∧ fgA A r < 10
theorem WF.pg9 {A : AT} (h : WF A) (b : Nat) : pgA A b < 9 := by
  by_cases hb : b < bcA A
  · exact (h.2.2.1 b hb).2.1
  · rw [(h.2.2.2.1 b (by omega)).1]; decide
theorem WF.in2 {A : AT} (h : WF A) (b : Nat) : inA A b < 2 ^ pgA A b := by
  by_cases hb : b < bcA A
  · exact (h.2.2.1 b hb).2.2.1
  · rw [(h.2.2.2.1 b (by omega)).2]; exact Nat.two_pow_pos _
theorem lt_256 {n pg : Nat} (h : n < 2 ^ pg) (hp : pg < 9) : n < 256 := Nat.lt_of_lt_of_le h (Nat.le_trans (Nat.pow_le_pow_right (by decide) (show pg ≤ 8 by omega)) (by decide))
theorem WF.in9 {A : AT} (h : WF A) (b : Nat) : inA A b < 256 := lt_256 (h.in2 b) (h.pg9 b)
/-- the cells of the class's Town at T -/
def TwS (μ : SMem) (T : Nat) : Prop := tg μ T = 10 ∧ gr μ T 0 = T + 1 ∧ gr μ T 1 = T + 2 ∧ tg μ (T + 1) = 53 ∧ ln μ (T + 1) = 4 ∧ tg μ (T + 2) = 52 ∧ ln μ (T + 2) = 6 ∧ (∀ b, b < 4 → gr μ (T + 1) b = T + 3 + 3 * b ∧ BkA μ (T + 3 + 3 * b)) ∧ ∀ r, r < 6 → gr μ (T + 2) r = 0 ∨ isRd (tg μ (gr μ (T + 2) r)) = true
def TwC (μ : SMem) (T : Nat) (A : AT) : Prop := TwS μ T ∧ gi μ T 2 = E (bcA A) ∧ gi μ T 3 = E (rcA A) ∧ gi μ T 4 = dyA A ∧ (∀ b, b < 4 → gi μ (T + 3 + 3 * b) 2 = E (pgA A b) ∧ gi μ (T + 3 + 3 * b) 3 = E (inA A b) ∧ (∀ p, p < 8 → gi μ (T + 3 + 3 * b + 1) p = ndA A b p) ∧ ∀ p, p < 8 → gi μ (T + 3 + 3 * b + 2) p = hoA A b p) ∧ ∀ r, r < rcA A → gr μ (T + 2) r ≠ 0 ∧ RdA μ (gr μ (T + 2) r) (kdA A r) (fgA A r)
theorem TwC.bk {μ : SMem} {T b : Nat} {A : AT} (h : TwC μ T A) (hb : b < 4) : BkN μ (T + 3 + 3 * b) (pgA A b) (ndA A b) := ⟨(h.1.2.2.2.2.2.2.2.1 b hb).2, (h.2.2.2.2.1 b hb).1, (h.2.2.2.2.1 b hb).2.2.1⟩
theorem f67 {d T : Nat} {x : Int32} {A : AT} {μ : SMem} (hw : WF A) (h : TwC μ T A) : cl d 67 [Sum.inr (Sum.inl (T)), Sum.inl (x)] μ = some (Sum.inl (some (Sum.inr (Sum.inl (if 0 ≤ x ∧ x < E (bcA A) then T + 3 + 3 * x.toNatClampNeg else 0)))), μ) := by
  obtain ⟨⟨s1, s2, s3, s4, s5, s6, s7, s8, s9⟩, t2, t3, t4, t5, t6⟩ := h
  show rn d 67 0 [some (Sum.inr (Sum.inl (T))), some (Sum.inl (x))] [] μ = _
  have hbc := hw.1
  by_cases c : 0 ≤ x ∧ x < E (bcA A)
  · obtain ⟨p, hp, rfl⟩ := E_of c.1 c.2 (by omega)
    have c0 : ¬ E p < 0 := Int32.not_lt.mpr c.1
    have c1 : ¬ E (bcA A) ≤ E p := Int32.not_le.mpr c.2
    have c2 : ¬ (4 : Int32) ≤ E p := by rw [show (4 : Int32) = E 4 from rfl, E_le (by decide) (by omega)]; omega
    simp only [st67_0, st67_1, st67_2, st67_3, st67_4, st67_5, st67_6, st67_7, st67_8, st67_9, st67_10, st67_11, st67_12, st67_13, st67_14, st67_15, s1, s2, s4, s5, t2, c0, c1, c2, c, E_ge0 (show p < 1000 by omega), E_n (show p < 1000 by omega), show p < 4 by omega, and_self, if_true, if_false, (s8 p (by omega)).1]
  · rw [if_neg c]
    by_cases c0 : x < 0
    · simp only [st67_0, st67_1, st67_2, st67_3, st67_4, st67_5, st67_6, st67_7, st67_8, st67_9, st67_10, st67_11, st67_12, st67_13, st67_14, st67_15, c0, if_true]
    · have c1 : E (bcA A) ≤ x := Int32.not_lt.mp (fun e => c ⟨Int32.not_lt.mp c0, e⟩)
      simp only [st67_0, st67_1, st67_2, st67_3, st67_4, st67_5, st67_6, st67_7, st67_8, st67_9, st67_10, st67_11, st67_12, st67_13, st67_14, st67_15, c0, c1, s1, t2, if_true, if_false]
theorem f68 {d T : Nat} {x : Int32} {A : AT} {μ : SMem} (hw : WF A) (h : TwC μ T A) : cl d 68 [Sum.inr (Sum.inl (T)), Sum.inl (x)] μ = some (Sum.inl (some (Sum.inr (Sum.inl (if 0 ≤ x ∧ x < E (rcA A) then gr μ (T + 2) x.toNatClampNeg else 0)))), μ) := by
  obtain ⟨⟨s1, s2, s3, s4, s5, s6, s7, s8, s9⟩, t2, t3, t4, t5, t6⟩ := h
  show rn d 68 0 [some (Sum.inr (Sum.inl (T))), some (Sum.inl (x))] [] μ = _
  have hbc := hw.2.1
  by_cases c : 0 ≤ x ∧ x < E (rcA A)
  · obtain ⟨p, hp, rfl⟩ := E_of c.1 c.2 (by omega)
    have c0 : ¬ E p < 0 := Int32.not_lt.mpr c.1
    have c1 : ¬ E (rcA A) ≤ E p := Int32.not_le.mpr c.2
    have c2 : ¬ (6 : Int32) ≤ E p := by rw [show (6 : Int32) = E 6 from rfl, E_le (by decide) (by omega)]; omega
    simp only [st68_0, st68_1, st68_2, st68_3, st68_4, st68_5, st68_6, st68_7, st68_8, st68_9, st68_10, st68_11, st68_12, st68_13, st68_14, st68_15, s1, s3, s6, s7, t3, c0, c1, c2, c, E_ge0 (show p < 1000 by omega), E_n (show p < 1000 by omega), show p < 6 by omega, and_self, if_true, if_false]
  · rw [if_neg c]
    by_cases c0 : x < 0
    · simp only [st68_0, st68_1, st68_2, st68_3, st68_4, st68_5, st68_6, st68_7, st68_8, st68_9, st68_10, st68_11, st68_12, st68_13, st68_14, st68_15, c0, if_true]
    · have c1 : E (rcA A) ≤ x := Int32.not_lt.mp (fun e => c ⟨Int32.not_lt.mp c0, e⟩)
      simp only [st68_0, st68_1, st68_2, st68_3, st68_4, st68_5, st68_6, st68_7, st68_8, st68_9, st68_10, st68_11, st68_12, st68_13, st68_14, st68_15, c0, c1, s1, t3, if_true, if_false]
/-- a book loses pages -/
def lsS (S B : Nat) : Nat → Nat
  | 0 => S
  | p + 1 => if B.testBit p = true then clr (lsS S B p) p else lsS S B p
def lsM (μ : SMem) (a S B : Nat) (r : Int32) : Nat → SMem
  | 0 => μ
  | p + 1 => if B.testBit p = true then seti (seti (lsM μ a S B r p) a 3 (E (lsS S B (p + 1)))) (a + 2) p r else lsM μ a S B r p
theorem lsS_s {S B : Nat} (p : Nat) : lsS S B (p + 1) = if B.testBit p = true then clr (lsS S B p) p else lsS S B p := rfl
theorem lsM_s {μ : SMem} {a S B : Nat} {r : Int32} (p : Nat) : lsM μ a S B r (p + 1) = if B.testBit p = true then seti (seti (lsM μ a S B r p) a 3 (E (lsS S B (p + 1)))) (a + 2) p r else lsM μ a S B r p := rfl
theorem lsS_lt {S B : Nat} (hS : S < 256) : ∀ k, k ≤ 8 → lsS S B k < 256 := by
  intro k
  induction k with
  | zero => intro _; exact hS
  | succ k ih =>
    intro h
    rw [lsS_s k]
    split
    · exact clr_lt _ (ih (by omega)) k (by omega)
    · exact ih (by omega)
theorem lsS_bit {S B : Nat} (hS : S < 256) : ∀ k, k ≤ 8 → ∀ q, q < 8 → (lsS S B k).testBit q = (S.testBit q && !(decide (q < k) && B.testBit q)) := by
  intro k
  induction k with
  | zero => intro _ q _; simp [lsS]
  | succ k ih =>
    intro h q hq
    rw [lsS_s k]
    by_cases e : q = k
    · subst e
      by_cases c : B.testBit q = true
      · rw [if_pos c, clr_bit _ (lsS_lt hS q (by omega)) q hq q hq]
        simp [c]
      · rw [if_neg c, ih (by omega) q hq]
        simp [c]
    · have e2 : decide (q < k + 1) = decide (q < k) := by
        have : (q < k + 1) = (q < k) := by rw [eq_iff_iff]; omega
        simp only [this]
      have e3 : (q == k) = false := by simp [e]
      rw [e2]
      by_cases c : B.testBit k = true
      · rw [if_pos c, clr_bit _ (lsS_lt hS k (by omega)) k (by omega) q hq, ih (by omega) q hq, e3]
        simp
      · rw [if_neg c, ih (by omega) q hq]
theorem bits_eq {a b : Nat} (ha : a < 256) (hb : b < 256) (h : ∀ q, q < 8 → a.testBit q = b.testBit q) : a = b := by
  refine Nat.eq_of_testBit_eq fun q => ?_
  by_cases hq : q < 8
  · exact h q hq
  · have e : ∀ n, n < 256 → n.testBit q = false := fun n hn => Nat.testBit_lt_two_pow (Nat.lt_of_lt_of_le hn (Nat.le_trans (by decide : 256 ≤ 2 ^ 8) (Nat.pow_le_pow_right (by decide) (by omega))))
    rw [e a ha, e b hb]
theorem lsM_rd {μ : SMem} {a S B : Nat} {r : Int32} (h3 : gi μ a 3 = E S) : ∀ k, SB (fun c => c = a ∨ c = a + 2) μ (lsM μ a S B r k) ∧ gi (lsM μ a S B r k) a 3 = E (lsS S B k) ∧ (∀ j, j ≠ 3 → gi (lsM μ a S B r k) a j = gi μ a j) ∧ ∀ j, gi (lsM μ a S B r k) (a + 2) j = if j < k ∧ B.testBit j = true then r else gi μ (a + 2) j := by
  intro k
  induction k with
  | zero => exact ⟨SB.rf, h3, fun _ _ => rfl, fun j => by simp [lsM]⟩
  | succ k ih =>
    obtain ⟨i1, i2, i3, i4⟩ := ih
    by_cases c : B.testBit k = true
    · rw [lsM_s k, if_pos c]
      refine ⟨i1.tr ((SB.se (Or.inl rfl)).tr (SB.se (Or.inr rfl))), ?_, ?_, ?_⟩
      · rw [gi_seti, if_neg (by omega), gi_seti, if_pos ⟨rfl, rfl⟩]
      · intro j hj
        rw [gi_seti, if_neg (by omega), gi_seti, if_neg (by omega), i3 j hj]
      · intro j
        rw [gi_seti, gi_seti, i4]
        by_cases e : j = k
        · subst e
          simp [c]
        · have : (j < k + 1) = (j < k) := by rw [eq_iff_iff]; omega
          simp [e, this]
    · have e2 : lsS S B (k + 1) = lsS S B k := by rw [lsS_s k, if_neg c]
      rw [lsM_s k, if_neg c, e2]
      refine ⟨i1, i2, i3, fun j => ?_⟩
      rw [i4]
      by_cases e : j = k
      · subst e
        have : ¬ (j < j) := by omega
        rw [if_neg (fun h => this h.1), if_neg (fun h => c h.2)]
      · have : (j < k + 1) = (j < k) := by rw [eq_iff_iff]; omega
        simp [this]
/-- a town after a READING -/
def rdA (A : AT) (r b : Nat) : AT := ((bcA A, rcA A, dyA A + 1), pgA A, up1 (inA A) b (lft (kdA A r) (fgA A r) (pgA A b) (ndA A b) (inA A b)), ndA A, up1 (hoA A) b (fun p => if (inA A b).testBit p = true ∧ (lft (kdA A r) (fgA A r) (pgA A b) (ndA A b) (inA A b)).testBit p = false then E r else hoA A b p), kdA A, fgA A)
theorem RdA.sb {A : Nat → Prop} {μ μ' : SMem} {n k f : Nat} (h : RdA μ n k f) (hs : SB A μ μ') (hn : ¬ A n) : RdA μ' n k f := by
  obtain ⟨a1, a2, a3, a4, a5, a6, a7⟩ := hs
  unfold RdA at *
  rw [a1, a7 n hn]
  exact h
theorem TwS.sb {A : Nat → Prop} {μ μ' : SMem} {T : Nat} (h : TwS μ T) (hs : SB A μ μ') : TwS μ' T := by
  have hb := fun a h => BkA.sb (a := a) h hs
  obtain ⟨a1, a2, a3, a4, a5, a6, a7⟩ := hs
  obtain ⟨s1, s2, s3, s4, s5, s6, s7, s8, s9⟩ := h
  unfold TwS
  rw [a1, a2, a3]
  exact ⟨s1, s2, s3, s4, s5, s6, s7, fun b h => ⟨(s8 b h).1, hb _ (s8 b h).2⟩, s9⟩
theorem lft_wf {A : AT} {r b : Nat} (hw : WF A) (hr : r < rcA A) (hb : b < bcA A) : lft (kdA A r) (fgA A r) (pgA A b) (ndA A b) (inA A b) < 2 ^ pgA A b :=
  lft_lt2 (hw.in2 b) (hw.2.2.2.2 r hr).1 (hw.2.2.2.2 r hr).2 (hw.2.2.1 b hb).1 (hw.pg9 b)
