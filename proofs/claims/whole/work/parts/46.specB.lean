/-! SPECS B: books (of the class), and what a reader of a kind makes of one -/
/-- a Book at cell a: its rows behind it -/
def BkA (μ : SMem) (a : Nat) : Prop := tg μ a = 1 ∧ gr μ a 0 = a + 1 ∧ gr μ a 1 = a + 2 ∧ tg μ (a + 1) = 50 ∧ ln μ (a + 1) = 8 ∧ tg μ (a + 2) = 50 ∧ ln μ (a + 2) = 8
/-- pages and needs -/
def BkN (μ : SMem) (a pg : Nat) (nd : Nat → Int32) : Prop := BkA μ a ∧ gi μ a 2 = E pg ∧ ∀ p, p < 8 → gi μ (a + 1) p = nd p
def NdOK (nd : Nat → Int32) : Prop := ∀ p, p < 8 → nd p = -4 ∨ ∃ q, q < p ∧ nd p = E q
/-- what is understood of the first k pages -/
def und (nd : Nat → Int32) (S : Nat) : Nat → Nat
  | 0 => 0
  | p + 1 => if S.testBit p = true ∧ (nd p < 0 ∨ (und nd S p).testBit (nd p).toNatClampNeg = true) then und nd S p ||| 1 <<< p else und nd S p
theorem und_s {nd : Nat → Int32} {S : Nat} (p : Nat) : und nd S (p + 1) = if S.testBit p = true ∧ (nd p < 0 ∨ (und nd S p).testBit (nd p).toNatClampNeg = true) then und nd S p ||| 1 <<< p else und nd S p := rfl
theorem und_lt {nd : Nat → Int32} {S : Nat} : ∀ p, p ≤ 8 → und nd S p < 256 := by
  intro p
  induction p with
  | zero => intro _; show (0 : Nat) < 256; decide
  | succ p ih =>
    intro h
    have h1 := ih (by omega)
    unfold und
    split
    · exact or_lt _ h1 p (by omega)
    · exact h1
theorem bit_hi : ∀ S, S < 256 → ∀ p, p ≤ 8 → S < 2 ^ p → ∀ q, q < 8 → p ≤ q → S.testBit q = false := by
  intro S hS p hp h q hq hpq
  exact Nat.testBit_lt_two_pow (Nat.lt_of_lt_of_le h (Nat.pow_le_pow_right (by decide) hpq))
theorem und_stop {nd : Nat → Int32} {S p : Nat} (hS : S < 256) (hp : p ≤ 8) (h : S < 2 ^ p) : ∀ k, p + k ≤ 8 → und nd S (p + k) = und nd S p := by
  intro k
  induction k with
  | zero => intro _; rfl
  | succ k ih =>
    intro hk
    have hb := bit_hi S hS p hp h (p + k) (by omega) (by omega)
    show und nd S ((p + k) + 1) = _
    rw [und_s (p + k), if_neg (by rw [hb]; simp), ih (by omega)]
theorem f16_lp {d a S : Nat} {nd : Nat → Int32} (hS : S < 256) (hnd : NdOK nd) {μ : SMem} (hb : BkA μ a) (hr : ∀ p, p < 8 → gi μ (a + 1) p = nd p) : ∀ k p (u4 : Option SV), p + k = 8 → rn d 16 4 [some (Sum.inr (Sum.inl (a))), some (Sum.inl (E S)), some (Sum.inl (E (und nd S p))), some (Sum.inl (E p)), u4] [] μ = some (Sum.inl (some (Sum.inl (E (und nd S 8)))), μ) := by
  obtain ⟨b1, b2, b3, b4, b5, b6, b7⟩ := hb
  intro k
  induction k with
  | zero =>
    intro p u4 hp
    have : p = 8 := by omega
    subst this
    rw [st16_4]
    simp only [st16_0, st16_1, st16_2, st16_3, st16_5, st16_6, st16_7, st16_8, st16_9, st16_10, st16_11, st16_12, st16_13, st16_14, st16_15, st16_16, st16_17, st16_18, st16_19, st16_20, st16_21, st16_22, st16_23, st16_24, st16_25, st16_26, st16_27, st16_28, st16_29, st16_30, st16_31, st16_32, st16_33, st16_34, st16_35, st16_36, st16_37, st16_38, st16_39, show (8 : Int32) ≤ E 8 from by decide, if_true]
  | succ k ih =>
    intro p u4 hp
    have hp8 : p < 8 := by omega
    have hc : ¬ (8 : Int32) ≤ E p := by rw [show (8 : Int32) = E 8 from rfl, E_le (by decide) (by omega)]; omega
    rw [st16_4]
    by_cases hs : S < 2 ^ p
    · have e9 : und nd S 8 = und nd S p := by have := und_stop (nd := nd) hS (by omega) hs (8 - p) (by omega); rwa [show p + (8 - p) = 8 by omega] at this
      simp only [st16_0, st16_1, st16_2, st16_3, st16_5, st16_6, st16_7, st16_8, st16_9, st16_10, st16_11, st16_12, st16_13, st16_14, st16_15, st16_16, st16_17, st16_18, st16_19, st16_20, st16_21, st16_22, st16_23, st16_24, st16_25, st16_26, st16_27, st16_28, st16_29, st16_30, st16_31, st16_32, st16_33, st16_34, st16_35, st16_36, st16_37, st16_38, st16_39, hc, if_false, (E_shr S hS p (by omega)).mpr hs, if_true, e9]
    · have hs0 : ¬ (E S >>> (E p &&& 31) = 0) := fun e => hs ((E_shr S hS p (by omega)).mp e)
      have hp0 : (0 : Int32) ≤ E p := E_nonneg (by omega)
      have hpn : (E p).toNatClampNeg = p := E_nn (by omega)
      have hu := und_lt (nd := nd) (S := S) p (by omega)
      have e1 : E p + 1 = E (p + 1) := E_add p 1
      simp only [st16_0, st16_1, st16_2, st16_3, st16_5, st16_6, st16_7, st16_8, st16_9, st16_10, st16_11, st16_12, st16_13, st16_14, st16_15, st16_16, st16_17, st16_18, st16_19, st16_20, st16_21, st16_22, st16_23, st16_24, st16_25, st16_26, st16_27, st16_28, st16_29, st16_30, st16_31, st16_32, st16_33, st16_34, st16_35, st16_36, st16_37, st16_38, st16_39, hc, if_false, hs0, b1, b2, b4, b5, hp0, hpn, hp8, hr p hp8, E_bit S hS p hp8, and_self]
      have ihs := ih (p + 1) (some (Sum.inl (nd p))) (by omega)
      rw [und_s p] at ihs
      by_cases hbit : S.testBit p = true
      · rcases hnd p hp8 with hn | ⟨q, hq, hn⟩
        · have hlt : nd p < 0 := by rw [hn]; decide
          simp only [hbit, hlt, true_or, and_self, if_true] at ihs ⊢
          simp only [e1, E_or1 _ hu p hp8]
          simpa using ihs
        · have hlt : ¬ nd p < 0 := by rw [hn]; exact Int32.not_lt.mpr (E_nonneg (by omega))
          have hq9 : (nd p).toNatClampNeg = q := by rw [hn]; exact E_nn (by omega)
          rw [hn] at ihs ⊢
          rw [hn] at hlt hq9
          rw [hq9] at ihs
          have eb := E_bit _ hu q (by omega)
          by_cases hqb : (und nd S p).testBit q = true
          · simp only [hbit, hlt, hqb, or_true, and_self, if_true, if_false] at ihs eb ⊢
            simp only [e1, eb, E_or1 _ hu p hp8]
            simpa using ihs
          · simp only [hbit, hlt, hqb, or_self, and_false, if_true, if_false] at ihs eb ⊢
            simp only [e1, eb]
            simpa using ihs
      · simp only [hbit, false_and, if_false] at ihs ⊢
        simp only [e1]
        simpa using ihs
theorem f16 {d a S : Nat} {nd : Nat → Int32} (hS : S < 256) (hnd : NdOK nd) {μ : SMem} (hb : BkA μ a) (hr : ∀ p, p < 8 → gi μ (a + 1) p = nd p) : cl d 16 [Sum.inr (Sum.inl (a)), Sum.inl (E S)] μ = some (Sum.inl (some (Sum.inl (E (und nd S 8)))), μ) := by
  show rn d 16 0 [some (Sum.inr (Sum.inl (a))), some (Sum.inl (E S)), none, none, none] [] μ = _
  simp only [st16_0, st16_1, st16_2, st16_3]
  exact f16_lp hS hnd hb hr 8 0 none rfl
theorem f224 {d n : Nat} (hn : n < 256) {μ : SMem} : cl d 224 [Sum.inl (E n)] μ = some (Sum.inl (some (Sum.inl (E (pcn n)))), μ) := by
  show rn d 224 0 [some (Sum.inl (E n))] [] μ = _
  simp only [st224_0, st224_1, st224_2, st224_3, st224_4, st224_5, st224_6, st224_7, st224_8, st224_9, st224_10, st224_11, st224_12, st224_13, st224_14, st224_15, st224_16, st224_17, st224_18, st224_19, st224_20, st224_21, st224_22, st224_23, st224_24, st224_25, st224_26, st224_27, st224_28, st224_29, st224_30, st224_31, st224_32, st224_33, st224_34, st224_35, st224_36, st224_37, st224_38, st224_39, st224_40, st224_41]
  refine congrArg (fun z => some (Sum.inl (some (Sum.inl (z))), μ)) ?_
  revert n
  decide +kernel
theorem f9 {d a pg : Nat} (hpg : pg < 9) {μ : SMem} (hb : tg μ a = 1) (hr : gi μ a 2 = E pg) : cl d 9 [Sum.inr (Sum.inl (a))] μ = some (Sum.inl (some (Sum.inl (E (2 ^ pg - 1)))), μ) := by
  show rn d 9 0 [some (Sum.inr (Sum.inl (a)))] [] μ = _
  simp only [st9_0, st9_1, st9_2, st9_3, st9_4, st9_5, st9_6, hb, hr, E_whole pg hpg]
theorem E_rem : ∀ f, f < 10 → ∀ pg, pg < 9 → 1 ≤ pg → g_irem (E f) (E pg) = E (f % pg) := by decide +kernel
theorem f17 {d a pg f : Nat} (hf : f < 10) (hpg : pg < 9) (h1 : 1 ≤ pg) {μ : SMem} (hb : tg μ a = 1) (hr : gi μ a 2 = E pg) : cl d 17 [Sum.inr (Sum.inl (a)), Sum.inl (E f)] μ = some (Sum.inl (some (Sum.inl (E (f % pg)))), μ) := by
  have c1 : (1 : Int32) ≤ E pg := by rw [E_1, E_le (by decide) (by omega)]; exact h1
  have c2 : ¬ E pg = 0 := by rw [E_0, E_inj (by omega) (by decide)]; omega
  show rn d 17 0 [some (Sum.inr (Sum.inl (a))), some (Sum.inl (E f))] [] μ = _
  simp only [st17_0, st17_1, st17_2, st17_3, st17_4, st17_5, st17_6, st17_7, st17_8, st17_9, st17_10, hb, hr, c1, c2, if_true, if_false, E_rem f hf pg hpg h1]
/-- a reader of a kind with a figure, at cell n -/
def ktag (k : Nat) : Nat := match k with
  | 0 => 7
  | 1 => 4
  | 2 => 3
  | 3 => 6
  | 4 => 2
  | 5 => 0
  | 6 => 9
  | _ => 5
def RdA (μ : SMem) (n k f : Nat) : Prop := tg μ n = ktag k ∧ gi μ n 0 = E f ∧ k < 8 ∧ f < 10
theorem ktag_rd {k : Nat} (h : k < 8) : isRd (ktag k) = true := by
  have : ∀ k, k < 8 → isRd (ktag k) = true := by decide
  exact this k h
theorem RdA.rd {μ : SMem} {n k f : Nat} (h : RdA μ n k f) : isRd (tg μ n) = true := by rw [h.1]; exact ktag_rd h.2.2.1
/-- times of a kind -/
def ktim (k : Nat) : Nat := if k = 2 ∨ k = 4 ∨ k = 5 ∨ k = 7 then 2 else 1
def wor (k f pg : Nat) (nd : Nat → Int32) (S : Nat) : Nat :=
  pcn (und nd S 8) * ktim k + (if k = 3 ∧ (und nd S 8).testBit (f % pg) = true then f else if k = 6 then f else 0)
theorem f46 {d n : Nat} {μ : SMem} : cl d 46 [Sum.inr (Sum.inl (n))] μ = some (Sum.inl (some (Sum.inl (E 1))), μ) := by
  show rn d 46 0 [some (Sum.inr (Sum.inl (n)))] [] μ = _
  simp only [st46_0, st46_1]
  rfl
theorem f20 {d n : Nat} {μ : SMem} (h : isRd (tg μ n) = true) : cl (d + 1) 20 [Sum.inr (Sum.inl (n))] μ = some (Sum.inl (some (Sum.inl (E 2))), μ) := by
  show rn (d + 1) 20 0 [some (Sum.inr (Sum.inl (n)))] [] μ = _
  simp only [st20_0, st20_1, st20_2, st20_3, st20_4, h, f46, aft_some, Option.toList_some, Option.toList_none, List.cons_append, List.nil_append, br0, br1, br2, br3, zr01, zr02]
  rfl
theorem f25 {d n : Nat} {μ : SMem} (h : isRd (tg μ n) = true) : cl (d + 1) 25 [Sum.inr (Sum.inl (n))] μ = some (Sum.inl (some (Sum.inl (E 2))), μ) := by
  show rn (d + 1) 25 0 [some (Sum.inr (Sum.inl (n)))] [] μ = _
  simp only [st25_0, st25_1, st25_2, st25_3, st25_4, h, f46, aft_some, Option.toList_some, Option.toList_none, List.cons_append, List.nil_append, br0, br1, br2, br3, zr01, zr02]
  rfl
theorem fdvt {d n k f : Nat} {μ : SMem} (h : RdA μ n k f) : cl (d + 1) (dvy_1 (tg μ n)) [Sum.inr (Sum.inl (n))] μ = some (Sum.inl (some (Sum.inl (E (ktim k)))), μ) := by
  have hrd := h.rd
  obtain ⟨h1, h2, h3, h4⟩ := h
  have hk : k = 0 ∨ k = 1 ∨ k = 2 ∨ k = 3 ∨ k = 4 ∨ k = 5 ∨ k = 6 ∨ k = 7 := by omega
  rcases hk with rfl | rfl | rfl | rfl | rfl | rfl | rfl | rfl <;> rw [h1] <;> first | exact f46 | exact f25 hrd | exact f20 hrd
theorem f47 {d n a k f pg S : Nat} {nd : Nat → Int32} (hS : S < 256) (hnd : NdOK nd) {μ : SMem} (h : RdA μ n k f) (hb : BkN μ a pg nd) : cl (d + 2) 47 [Sum.inr (Sum.inl (n)), Sum.inr (Sum.inl (a)), Sum.inl (E S)] μ = some (Sum.inl (some (Sum.inl (E (pcn (und nd S 8) * ktim k)))), μ) := by
  obtain ⟨b1, b2, b3⟩ := hb
  show rn (d + 2) 47 0 [some (Sum.inr (Sum.inl (n))), some (Sum.inr (Sum.inl (a))), some (Sum.inl (E S))] [] μ = _
  have hrd := h.rd
  have hu := und_lt (nd := nd) (S := S) 8 (by omega)
  simp only [st47_0, st47_1, st47_2, st47_3, st47_4, st47_5_t0, st47_5_t2, st47_5_t3, st47_5_t4, st47_5_t5, st47_5_t6, st47_5_t7, st47_5_t9, st47_6, st47_7, st47_5v, b1.1, f16 hS hnd b1 b3, f224 hu, st47_5v hrd, fdvt h, aft_some, Option.toList_some, Option.toList_none, List.cons_append, List.nil_append, br0, br1, br2, br3, zr01, zr02, E_mul]
theorem f40 {d n a f pg S : Nat} {nd : Nat → Int32} (hS : S < 256) (hpg : pg < 9) (h1 : 1 ≤ pg) (hnd : NdOK nd) {μ : SMem} (h : RdA μ n 3 f) (hb : BkN μ a pg nd) : cl (d + 3) 40 [Sum.inr (Sum.inl (n)), Sum.inr (Sum.inl (a)), Sum.inl (E S)] μ = some (Sum.inl (some (Sum.inl (E (wor 3 f pg nd S)))), μ) := by
  have h47 := fun d => f47 (d := d) hS hnd h hb
  obtain ⟨b1, b2, b3⟩ := hb
  show rn (d + 3) 40 0 [some (Sum.inr (Sum.inl (n))), some (Sum.inr (Sum.inl (a))), some (Sum.inl (E S)), none, none] [] μ = _
  have hrd := h.rd
  have hu := und_lt (nd := nd) (S := S) 8 (by omega)
  have hq : f % pg < 8 := by have := Nat.mod_lt f (show 0 < pg by omega); omega
  have c0 : ¬ E (f % pg) < 0 := Int32.not_lt.mpr (E_nonneg (by omega))
  simp only [st40_0, st40_1, st40_2, st40_3, st40_4, st40_5, st40_6, st40_7, st40_8, st40_9, st40_10, st40_11, st40_12, st40_13, st40_14, st40_15, st40_16, st40_17, st40_18, st40_19, st40_20, st40_21, st40_22, st40_23, st40_24, st40_25, st40_26, st40_27, st40_28, st40_29, st40_30, hrd, h.2.1, b1.1, f17 h.2.2.2 hpg h1 b1.1 b2, f16 hS hnd b1 b3, c0, E_bit _ hu _ hq, h47, aft_some, Option.toList_some, Option.toList_none, List.cons_append, List.nil_append, br0, br1, br2, br3, zr01, zr02, if_false]
  unfold wor
  by_cases hb9 : (und nd S 8).testBit (f % pg) = true
  · simp [hb9, E_add, ktim]
  · simp [hb9, E_add, ktim, E]
theorem f61 {d n a f pg S : Nat} {nd : Nat → Int32} (hS : S < 256) (hnd : NdOK nd) {μ : SMem} (h : RdA μ n 6 f) (hb : BkN μ a pg nd) : cl (d + 3) 61 [Sum.inr (Sum.inl (n)), Sum.inr (Sum.inl (a)), Sum.inl (E S)] μ = some (Sum.inl (some (Sum.inl (E (wor 6 f pg nd S)))), μ) := by
  have h47 := fun d => f47 (d := d) hS hnd h hb
  show rn (d + 3) 61 0 [some (Sum.inr (Sum.inl (n))), some (Sum.inr (Sum.inl (a))), some (Sum.inl (E S))] [] μ = _
  have hrd := h.rd
  simp only [st61_0, st61_1, st61_2, st61_3, st61_4, st61_5, st61_6, st61_7, hrd, h.2.1, h47, aft_some, Option.toList_some, Option.toList_none, List.cons_append, List.nil_append, br0, br1, br2, br3, zr01, zr02, E_add]
  unfold wor
  simp
/-- WORTH, whatever the kind -/
theorem fwor {d n a k f pg S : Nat} {nd : Nat → Int32} (hS : S < 256) (hpg : pg < 9) (h1 : 1 ≤ pg) (hnd : NdOK nd) {μ : SMem} (h : RdA μ n k f) (hb : BkN μ a pg nd) : cl (d + 3) (dvy_3 (tg μ n)) [Sum.inr (Sum.inl (n)), Sum.inr (Sum.inl (a)), Sum.inl (E S)] μ = some (Sum.inl (some (Sum.inl (E (wor k f pg nd S)))), μ) := by
  have hk : k = 0 ∨ k = 1 ∨ k = 2 ∨ k = 3 ∨ k = 4 ∨ k = 5 ∨ k = 6 ∨ k = 7 := by have := h.2.2.1; omega
  rcases hk with rfl | rfl | rfl | rfl | rfl | rfl | rfl | rfl <;> rw [h.1] <;> first | exact f40 hS hpg h1 hnd h hb | exact f61 hS hnd h hb | (refine (f47 (d := d + 1) hS hnd h hb).trans ?_; simp [wor])
/-- by which page most is understood behind it: best and most of the first k pages -/
def kst (g : Bool) (nd : Nat → Int32) (S : Nat) : Nat → Int32 × Int32
  | 0 => (-4, -1)
  | p + 1 => if S.testBit p = true ∧ (if g = true then (kst g nd S p).2 ≤ E (pcn (und nd (clr S p) 8)) else (kst g nd S p).2 < E (pcn (und nd (clr S p) 8))) then (E p, E (pcn (und nd (clr S p) 8))) else kst g nd S p
theorem kst_s {g : Bool} {nd : Nat → Int32} {S : Nat} (p : Nat) : kst g nd S (p + 1) = if S.testBit p = true ∧ (if g = true then (kst g nd S p).2 ≤ E (pcn (und nd (clr S p) 8)) else (kst g nd S p).2 < E (pcn (und nd (clr S p) 8))) then (E p, E (pcn (und nd (clr S p) 8))) else kst g nd S p := rfl
def tk (k f pg : Nat) (nd : Nat → Int32) (S : Nat) : Int32 := match k with
  | 1 => grtF S 8
  | 2 => (kst false nd S 8).1
  | 3 => if S.testBit (f % pg) = true then E (f % pg) else grtF S 8
  | 5 => (kst true nd S 8).1
  | 6 => if S.testBit f = true then E f else lstF S 0 8
  | 7 => if pcn S ≤ f then -4 else (kst false nd S 8).1
  | _ => lstF S 0 8
theorem f2 {d n : Nat} {x y : Int32} {μ : SMem} : cl d 2 [Sum.inr (Sum.inl (n)), Sum.inl (x), Sum.inl (y)] μ = some (Sum.inl (some (Sum.inl (if y ≤ x then 1 else 0))), μ) := by
  show rn d 2 0 [some (Sum.inr (Sum.inl (n))), some (Sum.inl (x)), some (Sum.inl (y))] [] μ = _
  simp only [st2_0, st2_1, st2_2, st2_3, st2_4, st2_5, st2_6]
  by_cases h : x < y
  · simp [h, Int32.not_le.mpr h]
  · simp [h, Int32.not_lt.mp h]
theorem f27 {d n : Nat} {x y : Int32} {μ : SMem} : cl d 27 [Sum.inr (Sum.inl (n)), Sum.inl (x), Sum.inl (y)] μ = some (Sum.inl (some (Sum.inl (if y < x then 1 else 0))), μ) := by
  show rn d 27 0 [some (Sum.inr (Sum.inl (n))), some (Sum.inl (x)), some (Sum.inl (y))] [] μ = _
  simp only [st27_0, st27_1, st27_2, st27_3, st27_4, st27_5, st27_6]
  by_cases h : x ≤ y
  · simp [h, Int32.not_lt.mpr h]
  · simp [h, Int32.not_le.mp h]
theorem f26_lp {d n a S t : Nat} {g : Bool} {nd : Nat → Int32} (hS : S < 256) (hnd : NdOK nd) {μ : SMem} (ht : tg μ n = t) (hg : (t = 0 ∧ g = true) ∨ ((t = 3 ∨ t = 5) ∧ g = false)) (hb : BkA μ a) (hr : ∀ p, p < 8 → gi μ (a + 1) p = nd p) : ∀ k p (u6 : Option SV), p + k = 8 → rn (d + 1) 26 6 [some (Sum.inr (Sum.inl (n))), some (Sum.inr (Sum.inl (a))), some (Sum.inl (E S)), some (Sum.inl ((kst g nd S p).1)), some (Sum.inl ((kst g nd S p).2)), some (Sum.inl (E p)), u6] [] μ = some (Sum.inl (some (Sum.inl ((kst g nd S 8).1))), μ) := by
  intro k
  induction k with
  | zero =>
    intro p u6 hp
    have : p = 8 := by omega
    subst this
    rw [st26_6]
    simp only [st26_0, st26_1, st26_2, st26_3, st26_4, st26_5, st26_7, st26_8, st26_9, st26_10, st26_11, st26_12, st26_13, st26_14, st26_15, st26_16, st26_17, st26_18, st26_19, st26_20, st26_21, st26_22, st26_23, st26_24, st26_25, st26_26, st26_27, st26_28, st26_29_t0, st26_29_t3, st26_29_t5, st26_30, st26_31, st26_32, st26_33, st26_34, st26_35, st26_36, st26_37, st26_38, show (8 : Int32) ≤ E 8 from by decide, if_true]
  | succ k ih =>
    intro p u6 hp
    have hp8 : p < 8 := by omega
    have hc : ¬ (8 : Int32) ≤ E p := by rw [show (8 : Int32) = E 8 from rfl, E_le (by decide) (by omega)]; omega
    have e1 : E p + 1 = E (p + 1) := E_add p 1
    have hcl := clr_lt S hS p hp8
    have hu := und_lt (nd := nd) (S := clr S p) 8 (by omega)
    rw [st26_6]
    have eb := E_bit S hS p hp8
    by_cases hbit : S.testBit p = true
    · rw [if_pos hbit] at eb
      have ihs := fun u => ih (p + 1) u (by omega)
      simp only [kst_s p] at ihs
      rcases hg with ⟨rfl, rfl⟩ | ⟨rfl | rfl, rfl⟩
      · by_cases hm : (kst true nd S p).2 ≤ E (pcn (und nd (clr S p) 8))
        · simp only [hbit, hm, if_true, and_self] at ihs
          simp only [st26_0, st26_1, st26_2, st26_3, st26_4, st26_5, st26_7, st26_8, st26_9, st26_10, st26_11, st26_12, st26_13, st26_14, st26_15, st26_16, st26_17, st26_18, st26_19, st26_20, st26_21, st26_22, st26_23, st26_24, st26_25, st26_26, st26_27, st26_28, st26_29_t0, st26_29_t3, st26_29_t5, st26_30, st26_31, st26_32, st26_33, st26_34, st26_35, st26_36, st26_37, st26_38, hc, if_false, eb, E_clr S hS p hp8, hb.1, f16 hcl hnd hb hr, f224 hu, ht, st26_29_t0 ht, f2, hm, if_true, aft_some, Option.toList_some, Option.toList_none, List.cons_append, List.nil_append, br0, br1, br2, br3, zr01, zr02, e1]
          simpa using ihs _
        · simp only [hbit, hm, if_true, if_false, and_false] at ihs
          simp only [st26_0, st26_1, st26_2, st26_3, st26_4, st26_5, st26_7, st26_8, st26_9, st26_10, st26_11, st26_12, st26_13, st26_14, st26_15, st26_16, st26_17, st26_18, st26_19, st26_20, st26_21, st26_22, st26_23, st26_24, st26_25, st26_26, st26_27, st26_28, st26_29_t0, st26_29_t3, st26_29_t5, st26_30, st26_31, st26_32, st26_33, st26_34, st26_35, st26_36, st26_37, st26_38, hc, if_false, eb, E_clr S hS p hp8, hb.1, f16 hcl hnd hb hr, f224 hu, ht, st26_29_t0 ht, f2, hm, if_true, aft_some, Option.toList_some, Option.toList_none, List.cons_append, List.nil_append, br0, br1, br2, br3, zr01, zr02, e1]
          simpa using ihs _
      · by_cases hm : (kst false nd S p).2 < E (pcn (und nd (clr S p) 8))
        · simp only [hbit, hm, if_true, and_self] at ihs
          simp only [st26_0, st26_1, st26_2, st26_3, st26_4, st26_5, st26_7, st26_8, st26_9, st26_10, st26_11, st26_12, st26_13, st26_14, st26_15, st26_16, st26_17, st26_18, st26_19, st26_20, st26_21, st26_22, st26_23, st26_24, st26_25, st26_26, st26_27, st26_28, st26_29_t0, st26_29_t3, st26_29_t5, st26_30, st26_31, st26_32, st26_33, st26_34, st26_35, st26_36, st26_37, st26_38, hc, if_false, eb, E_clr S hS p hp8, hb.1, f16 hcl hnd hb hr, f224 hu, ht, st26_29_t3 ht, f27, hm, if_true, aft_some, Option.toList_some, Option.toList_none, List.cons_append, List.nil_append, br0, br1, br2, br3, zr01, zr02, e1]
          simpa using ihs _
        · simp only [hbit, hm, if_false, and_false] at ihs
          simp only [st26_0, st26_1, st26_2, st26_3, st26_4, st26_5, st26_7, st26_8, st26_9, st26_10, st26_11, st26_12, st26_13, st26_14, st26_15, st26_16, st26_17, st26_18, st26_19, st26_20, st26_21, st26_22, st26_23, st26_24, st26_25, st26_26, st26_27, st26_28, st26_29_t0, st26_29_t3, st26_29_t5, st26_30, st26_31, st26_32, st26_33, st26_34, st26_35, st26_36, st26_37, st26_38, hc, if_false, eb, E_clr S hS p hp8, hb.1, f16 hcl hnd hb hr, f224 hu, ht, st26_29_t3 ht, f27, hm, if_true, aft_some, Option.toList_some, Option.toList_none, List.cons_append, List.nil_append, br0, br1, br2, br3, zr01, zr02, e1]
          simpa using ihs _
      · by_cases hm : (kst false nd S p).2 < E (pcn (und nd (clr S p) 8))
        · simp only [hbit, hm, if_true, and_self] at ihs
          simp only [st26_0, st26_1, st26_2, st26_3, st26_4, st26_5, st26_7, st26_8, st26_9, st26_10, st26_11, st26_12, st26_13, st26_14, st26_15, st26_16, st26_17, st26_18, st26_19, st26_20, st26_21, st26_22, st26_23, st26_24, st26_25, st26_26, st26_27, st26_28, st26_29_t0, st26_29_t3, st26_29_t5, st26_30, st26_31, st26_32, st26_33, st26_34, st26_35, st26_36, st26_37, st26_38, hc, if_false, eb, E_clr S hS p hp8, hb.1, f16 hcl hnd hb hr, f224 hu, ht, st26_29_t5 ht, f27, hm, if_true, aft_some, Option.toList_some, Option.toList_none, List.cons_append, List.nil_append, br0, br1, br2, br3, zr01, zr02, e1]
          simpa using ihs _
        · simp only [hbit, hm, if_false, and_false] at ihs
          simp only [st26_0, st26_1, st26_2, st26_3, st26_4, st26_5, st26_7, st26_8, st26_9, st26_10, st26_11, st26_12, st26_13, st26_14, st26_15, st26_16, st26_17, st26_18, st26_19, st26_20, st26_21, st26_22, st26_23, st26_24, st26_25, st26_26, st26_27, st26_28, st26_29_t0, st26_29_t3, st26_29_t5, st26_30, st26_31, st26_32, st26_33, st26_34, st26_35, st26_36, st26_37, st26_38, hc, if_false, eb, E_clr S hS p hp8, hb.1, f16 hcl hnd hb hr, f224 hu, ht, st26_29_t5 ht, f27, hm, if_true, aft_some, Option.toList_some, Option.toList_none, List.cons_append, List.nil_append, br0, br1, br2, br3, zr01, zr02, e1]
          simpa using ihs _
    · rw [if_neg hbit] at eb
      have ihs := fun u => ih (p + 1) u (by omega)
      simp only [kst_s p] at ihs
      simp only [hbit, false_and, if_false] at ihs
      simp only [st26_0, st26_1, st26_2, st26_3, st26_4, st26_5, st26_7, st26_8, st26_9, st26_10, st26_11, st26_12, st26_13, st26_14, st26_15, st26_16, st26_17, st26_18, st26_19, st26_20, st26_21, st26_22, st26_23, st26_24, st26_25, st26_26, st26_27, st26_28, st26_29_t0, st26_29_t3, st26_29_t5, st26_30, st26_31, st26_32, st26_33, st26_34, st26_35, st26_36, st26_37, st26_38, hc, if_false, eb, if_true, e1]
      simpa using ihs _
theorem f26 {d n a S t : Nat} {g : Bool} {nd : Nat → Int32} (hS : S < 256) (hnd : NdOK nd) {μ : SMem} (ht : tg μ n = t) (hg : (t = 0 ∧ g = true) ∨ ((t = 3 ∨ t = 5) ∧ g = false)) (hb : BkA μ a) (hr : ∀ p, p < 8 → gi μ (a + 1) p = nd p) : cl (d + 1) 26 [Sum.inr (Sum.inl (n)), Sum.inr (Sum.inl (a)), Sum.inl (E S)] μ = some (Sum.inl (some (Sum.inl ((kst g nd S 8).1))), μ) := by
  show rn (d + 1) 26 0 [some (Sum.inr (Sum.inl (n))), some (Sum.inr (Sum.inl (a))), some (Sum.inl (E S)), none, none, none, none] [] μ = _
  simp only [st26_0, st26_1, st26_2, st26_3, st26_4, st26_5]
  exact f26_lp hS hnd ht hg hb hr 8 0 none rfl
theorem f48 {d n a S : Nat} (hS : S < 256) {μ : SMem} : cl (d + 1) 48 [Sum.inr (Sum.inl (n)), Sum.inr (Sum.inl (a)), Sum.inl (E S)] μ = some (Sum.inl (some (Sum.inl (lstF S 0 8))), μ) := by
  show rn (d + 1) 48 0 [some (Sum.inr (Sum.inl (n))), some (Sum.inr (Sum.inl (a))), some (Sum.inl (E S))] [] μ = _
  simp only [st48_0, st48_1, st48_2, f134 hS, aft_some, Option.toList_some, Option.toList_none, List.cons_append, List.nil_append, br0, br1, br2, br3, zr01, zr02]
theorem f31 {d n a S : Nat} (hS : S < 256) {μ : SMem} : cl (d + 1) 31 [Sum.inr (Sum.inl (n)), Sum.inr (Sum.inl (a)), Sum.inl (E S)] μ = some (Sum.inl (some (Sum.inl (grtF S 8))), μ) := by
  show rn (d + 1) 31 0 [some (Sum.inr (Sum.inl (n))), some (Sum.inr (Sum.inl (a))), some (Sum.inl (E S))] [] μ = _
  simp only [st31_0, st31_1, st31_2, f135 hS, aft_some, Option.toList_some, Option.toList_none, List.cons_append, List.nil_append, br0, br1, br2, br3, zr01, zr02]
theorem f41 {d n a f pg S : Nat} {nd : Nat → Int32} (hS : S < 256) (hpg : pg < 9) (h1 : 1 ≤ pg) {μ : SMem} (h : RdA μ n 3 f) (hb : BkN μ a pg nd) : cl (d + 2) 41 [Sum.inr (Sum.inl (n)), Sum.inr (Sum.inl (a)), Sum.inl (E S)] μ = some (Sum.inl (some (Sum.inl (tk 3 f pg nd S))), μ) := by
  obtain ⟨b1, b2, b3⟩ := hb
  show rn (d + 2) 41 0 [some (Sum.inr (Sum.inl (n))), some (Sum.inr (Sum.inl (a))), some (Sum.inl (E S)), none] [] μ = _
  have hrd := h.rd
  have hq : f % pg < 8 := by have := Nat.mod_lt f (show 0 < pg by omega); omega
  have c0 : ¬ E (f % pg) < 0 := Int32.not_lt.mpr (E_nonneg (by omega))
  simp only [st41_0, st41_1, st41_2, st41_3, st41_4, st41_5, st41_6, st41_7, st41_8, st41_9, st41_10, st41_11, st41_12, st41_13, st41_14, st41_15, st41_16, st41_17, st41_18, st41_19, hrd, h.2.1, b1.1, f17 h.2.2.2 hpg h1 b1.1 b2, c0, E_bit _ hS _ hq, f31 hS, aft_some, Option.toList_some, Option.toList_none, List.cons_append, List.nil_append, br0, br1, br2, br3, zr01, zr02, if_false]
  unfold tk
  by_cases hb9 : S.testBit (f % pg) = true
  · simp [hb9]
  · simp [hb9]
theorem E_bitf : ∀ n, n < 256 → ∀ p, p < 10 → (E n >>> (E p &&& 31)) &&& 1 = if n.testBit p then 1 else 0 := by decide +kernel
theorem f62 {d n a f pg S : Nat} {nd : Nat → Int32} (hS : S < 256) {μ : SMem} (h : RdA μ n 6 f) : cl (d + 2) 62 [Sum.inr (Sum.inl (n)), Sum.inr (Sum.inl (a)), Sum.inl (E S)] μ = some (Sum.inl (some (Sum.inl (tk 6 f pg nd S))), μ) := by
  show rn (d + 2) 62 0 [some (Sum.inr (Sum.inl (n))), some (Sum.inr (Sum.inl (a))), some (Sum.inl (E S))] [] μ = _
  have hrd := h.rd
  simp only [st62_0, st62_1, st62_2, st62_3, st62_4, st62_5, st62_6, st62_7, st62_8, st62_9, st62_10, st62_11, st62_12, st62_13, st62_14, hrd, h.2.1, E_bitf _ hS _ h.2.2.2, f48 hS, aft_some, Option.toList_some, Option.toList_none, List.cons_append, List.nil_append, br0, br1, br2, br3, zr01, zr02]
  unfold tk
  by_cases hb9 : S.testBit f = true
  · simp [hb9]
  · simp [hb9]
theorem f35 {d n a f pg S : Nat} {nd : Nat → Int32} (hS : S < 256) (hnd : NdOK nd) {μ : SMem} (h : RdA μ n 7 f) (hb : BkN μ a pg nd) : cl (d + 2) 35 [Sum.inr (Sum.inl (n)), Sum.inr (Sum.inl (a)), Sum.inl (E S)] μ = some (Sum.inl (some (Sum.inl (tk 7 f pg nd S))), μ) := by
  have h26 := fun d => f26 (d := d) (g := false) hS hnd h.1 (Or.inr ⟨Or.inr rfl, rfl⟩) hb.1 hb.2.2
  show rn (d + 2) 35 0 [some (Sum.inr (Sum.inl (n))), some (Sum.inr (Sum.inl (a))), some (Sum.inl (E S))] [] μ = _
  have hrd := h.rd
  have hpc := pcn_le S hS
  have hc : (E f < E (pcn S)) = (f < pcn S) := by rw [eq_iff_iff, E_lt (by have := h.2.2.2; omega) (by omega)]
  simp only [st35_0, st35_1, st35_2, st35_3, st35_4, st35_5, st35_6, st35_7, st35_8, st35_9, st35_10, st35_11, hrd, h.2.1, f224 hS, hc, h26, aft_some, Option.toList_some, Option.toList_none, List.cons_append, List.nil_append, br0, br1, br2, br3, zr01, zr02]
  unfold tk
  by_cases h9 : f < pcn S
  · simp [h9, Nat.not_le.mpr h9]
  · simp [h9, Nat.not_lt.mp h9]
/-- TAKES, whatever the kind -/
theorem ftk {d n a k f pg S : Nat} {nd : Nat → Int32} (hS : S < 256) (hpg : pg < 9) (h1 : 1 ≤ pg) (hnd : NdOK nd) {μ : SMem} (h : RdA μ n k f) (hb : BkN μ a pg nd) : cl (d + 2) (dvy_2 (tg μ n)) [Sum.inr (Sum.inl (n)), Sum.inr (Sum.inl (a)), Sum.inl (E S)] μ = some (Sum.inl (some (Sum.inl (tk k f pg nd S))), μ) := by
  have hk : k = 0 ∨ k = 1 ∨ k = 2 ∨ k = 3 ∨ k = 4 ∨ k = 5 ∨ k = 6 ∨ k = 7 := by have := h.2.2.1; omega
  have ht := h.1
  rcases hk with rfl | rfl | rfl | rfl | rfl | rfl | rfl | rfl <;> rw [h.1]
  · exact f48 hS
  · exact f31 hS
  · exact f26 hS hnd ht (Or.inr ⟨Or.inl rfl, rfl⟩) hb.1 hb.2.2
  · exact f41 hS hpg h1 h hb
  · exact f48 hS
  · exact f26 hS hnd ht (Or.inl ⟨rfl, rfl⟩) hb.1 hb.2.2
  · exact f62 hS h
  · exact f35 hS hnd h hb
