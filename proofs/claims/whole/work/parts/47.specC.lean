/-! SPECS C: the reference's reads of its row s, what is understood, WORTH, TAKES -/
def MA (μ : SMem) : Prop := tg μ 69 = 12 ∧ gr μ 69 0 = 70 ∧ gr μ 69 1 = 71 ∧ gr μ 69 2 = 72 ∧ gr μ 69 3 = 73 ∧ gr μ 69 4 = 74 ∧ gr μ 69 5 = 75 ∧ gr μ 69 6 = 76 ∧ gr μ 69 7 = 77 ∧ gr μ 69 8 = 78 ∧ gr μ 69 9 = 79 ∧ gr μ 69 15 = 80 ∧ gr μ 69 16 = 81 ∧ gr μ 69 19 = 82 ∧
  (tg μ 70 = 50 ∧ tg μ 71 = 50 ∧ tg μ 72 = 50 ∧ tg μ 73 = 50 ∧ tg μ 74 = 50 ∧ tg μ 75 = 50 ∧ tg μ 76 = 50 ∧ tg μ 77 = 50 ∧ tg μ 78 = 50 ∧ tg μ 79 = 50 ∧ tg μ 80 = 50 ∧ tg μ 81 = 50 ∧ tg μ 82 = 50) ∧
  (ln μ 70 = 87 ∧ ln μ 71 = 87 ∧ ln μ 72 = 87 ∧ ln μ 73 = 87 ∧ ln μ 74 = 8 ∧ ln μ 75 = 8 ∧ ln μ 76 = 8 ∧ ln μ 77 = 800 ∧ ln μ 78 = 8 ∧ ln μ 79 = 8 ∧ ln μ 80 = 3 ∧ ln μ 81 = 6 ∧ ln μ 82 = 10)
theorem ix3 (b : Nat) : (3 : Int32) + 18 * E b = E (3 + 18 * b) := by rw [show (3 : Int32) = E 3 from rfl, show (18 : Int32) = E 18 from rfl, E_mul, E_add]
theorem ix4 (b : Nat) : (3 : Int32) + 18 * E b + 1 = E (4 + 18 * b) := by rw [ix3, E_1, E_add]; congr 1; omega
theorem ix5 (b p : Nat) : (3 : Int32) + 18 * E b + 2 + E p = E (5 + 18 * b + p) := by rw [ix3, show (2 : Int32) = E 2 from rfl, E_add, E_add]; congr 1; omega
theorem ix13 (b p : Nat) : (3 : Int32) + 18 * E b + 10 + E p = E (13 + 18 * b + p) := by rw [ix3, show (10 : Int32) = E 10 from rfl, E_add, E_add]; congr 1; omega
theorem ix75 (r : Nat) : (75 : Int32) + 2 * E r = E (75 + 2 * r) := by rw [show (75 : Int32) = E 75 from rfl, show (2 : Int32) = E 2 from rfl, E_mul, E_add]
theorem ix76 (r : Nat) : (75 : Int32) + 2 * E r + 1 = E (76 + 2 * r) := by rw [ix75, E_1, E_add]; congr 1; omega
theorem E_ge0 {n : Nat} (h : n < 1000) : ((0 : Int32) ≤ E n) = True := eq_true (E_nonneg (by omega))
theorem E_n {n : Nat} (h : n < 1000) : (E n).toNatClampNeg = n := E_nn (by omega)
theorem f143 {d b : Nat} (hb : b < 4) {μ : SMem} (h : MA μ) : cl d 143 [Sum.inr (Sum.inl (69)), Sum.inl (E b)] μ = some (Sum.inl (some (Sum.inl (gi μ 70 (3 + 18 * b)))), μ) := by
  show rn d 143 0 [some (Sum.inr (Sum.inl (69))), some (Sum.inl (E b))] [] μ = _
  simp only [st143_0, st143_1, st143_2, st143_3, st143_4, st143_5, st143_6, st143_7, st143_8, h.1, h.2.1, h.2.2.2.2.2.2.2.2.2.2.2.2.2.2.1.1, h.2.2.2.2.2.2.2.2.2.2.2.2.2.2.2.1, ix3, E_ge0 (show 3 + 18 * b < 1000 by omega), E_n (show 3 + 18 * b < 1000 by omega), show 3 + 18 * b < 87 by omega, true_and]
theorem f144 {d b : Nat} (hb : b < 4) {μ : SMem} (h : MA μ) : cl d 144 [Sum.inr (Sum.inl (69)), Sum.inl (E b)] μ = some (Sum.inl (some (Sum.inl (gi μ 70 (4 + 18 * b)))), μ) := by
  show rn d 144 0 [some (Sum.inr (Sum.inl (69))), some (Sum.inl (E b))] [] μ = _
  simp only [st144_0, st144_1, st144_2, st144_3, st144_4, st144_5, st144_6, st144_7, st144_8, st144_9, st144_10, h.1, h.2.1, h.2.2.2.2.2.2.2.2.2.2.2.2.2.2.1.1, h.2.2.2.2.2.2.2.2.2.2.2.2.2.2.2.1, ix4, E_ge0 (show 4 + 18 * b < 1000 by omega), E_n (show 4 + 18 * b < 1000 by omega), show 4 + 18 * b < 87 by omega, true_and]
theorem f145 {d b : Nat} {v : Int32} (hb : b < 4) {μ : SMem} (h : MA μ) : cl d 145 [Sum.inr (Sum.inl (69)), Sum.inl (E b), Sum.inl (v)] μ = some (Sum.inl none, seti μ 70 (4 + 18 * b) v) := by
  show rn d 145 0 [some (Sum.inr (Sum.inl (69))), some (Sum.inl (E b)), some (Sum.inl (v))] [] μ = _
  simp only [st145_0, st145_1, st145_2, st145_3, st145_4, st145_5, st145_6, st145_7, st145_8, st145_9, st145_10, st145_11, h.1, h.2.1, h.2.2.2.2.2.2.2.2.2.2.2.2.2.2.1.1, h.2.2.2.2.2.2.2.2.2.2.2.2.2.2.2.1, ix4, E_ge0 (show 4 + 18 * b < 1000 by omega), E_n (show 4 + 18 * b < 1000 by omega), show 4 + 18 * b < 87 by omega, true_and]
theorem f146 {d b p : Nat} (hb : b < 4) (hp : p < 8) {μ : SMem} (h : MA μ) : cl d 146 [Sum.inr (Sum.inl (69)), Sum.inl (E b), Sum.inl (E p)] μ = some (Sum.inl (some (Sum.inl (gi μ 70 (5 + 18 * b + p)))), μ) := by
  show rn d 146 0 [some (Sum.inr (Sum.inl (69))), some (Sum.inl (E b)), some (Sum.inl (E p))] [] μ = _
  simp only [st146_0, st146_1, st146_2, st146_3, st146_4, st146_5, st146_6, st146_7, st146_8, st146_9, st146_10, st146_11, st146_12, h.1, h.2.1, h.2.2.2.2.2.2.2.2.2.2.2.2.2.2.1.1, h.2.2.2.2.2.2.2.2.2.2.2.2.2.2.2.1, ix5, E_ge0 (show 5 + 18 * b + p < 1000 by omega), E_n (show 5 + 18 * b + p < 1000 by omega), show 5 + 18 * b + p < 87 by omega, true_and]
theorem f147 {d b p : Nat} (hb : b < 4) (hp : p < 8) {μ : SMem} (h : MA μ) : cl d 147 [Sum.inr (Sum.inl (69)), Sum.inl (E b), Sum.inl (E p)] μ = some (Sum.inl (some (Sum.inl (gi μ 70 (13 + 18 * b + p)))), μ) := by
  show rn d 147 0 [some (Sum.inr (Sum.inl (69))), some (Sum.inl (E b)), some (Sum.inl (E p))] [] μ = _
  simp only [st147_0, st147_1, st147_2, st147_3, st147_4, st147_5, st147_6, st147_7, st147_8, st147_9, st147_10, st147_11, st147_12, h.1, h.2.1, h.2.2.2.2.2.2.2.2.2.2.2.2.2.2.1.1, h.2.2.2.2.2.2.2.2.2.2.2.2.2.2.2.1, ix13, E_ge0 (show 13 + 18 * b + p < 1000 by omega), E_n (show 13 + 18 * b + p < 1000 by omega), show 13 + 18 * b + p < 87 by omega, true_and]
theorem f150 {d r : Nat} (hr : r < 6) {μ : SMem} (h : MA μ) : cl d 150 [Sum.inr (Sum.inl (69)), Sum.inl (E r)] μ = some (Sum.inl (some (Sum.inl (gi μ 70 (75 + 2 * r)))), μ) := by
  show rn d 150 0 [some (Sum.inr (Sum.inl (69))), some (Sum.inl (E r))] [] μ = _
  simp only [st150_0, st150_1, st150_2, st150_3, st150_4, st150_5, st150_6, st150_7, st150_8, h.1, h.2.1, h.2.2.2.2.2.2.2.2.2.2.2.2.2.2.1.1, h.2.2.2.2.2.2.2.2.2.2.2.2.2.2.2.1, ix75, E_ge0 (show 75 + 2 * r < 1000 by omega), E_n (show 75 + 2 * r < 1000 by omega), show 75 + 2 * r < 87 by omega, true_and]
theorem f151 {d r : Nat} (hr : r < 6) {μ : SMem} (h : MA μ) : cl d 151 [Sum.inr (Sum.inl (69)), Sum.inl (E r)] μ = some (Sum.inl (some (Sum.inl (gi μ 70 (76 + 2 * r)))), μ) := by
  show rn d 151 0 [some (Sum.inr (Sum.inl (69))), some (Sum.inl (E r))] [] μ = _
  simp only [st151_0, st151_1, st151_2, st151_3, st151_4, st151_5, st151_6, st151_7, st151_8, st151_9, st151_10, h.1, h.2.1, h.2.2.2.2.2.2.2.2.2.2.2.2.2.2.1.1, h.2.2.2.2.2.2.2.2.2.2.2.2.2.2.2.1, ix76, E_ge0 (show 76 + 2 * r < 1000 by omega), E_n (show 76 + 2 * r < 1000 by omega), show 76 + 2 * r < 87 by omega, true_and]
/-- book b in the row s: pages, pages in, needs -/
def BkS (μ : SMem) (b pg : Nat) (nd : Nat → Int32) (S : Nat) : Prop := b < 4 ∧ 1 ≤ pg ∧ pg < 9 ∧ S < 2 ^ pg ∧ gi μ 70 (3 + 18 * b) = E pg ∧ gi μ 70 (4 + 18 * b) = E S ∧ (∀ p, p < 8 → gi μ 70 (5 + 18 * b + p) = nd p) ∧ NdOK nd
theorem BkS.lt {μ : SMem} {b pg : Nat} {nd : Nat → Int32} {S : Nat} (h : BkS μ b pg nd S) : S < 256 :=
  Nat.lt_of_lt_of_le h.2.2.2.1 (Nat.le_trans (Nat.pow_le_pow_right (by decide) (show pg ≤ 8 by have := h.2.2.1; omega)) (by decide))
theorem f149 {d b pg S p : Nat} {nd : Nat → Int32} (hp : p < 8) {μ : SMem} (h : MA μ) (hb : BkS μ b pg nd S) : cl (d + 1) 149 [Sum.inr (Sum.inl (69)), Sum.inl (E b), Sum.inl (E p)] μ = some (Sum.inl (some (Sum.inl (if S.testBit p = true then 1 else 0))), μ) := by
  have hS := hb.lt
  obtain ⟨b1, b2, b3, b4, b5, b6, b7, b8⟩ := hb
  show rn (d + 1) 149 0 [some (Sum.inr (Sum.inl (69))), some (Sum.inl (E b)), some (Sum.inl (E p))] [] μ = _
  simp only [st149_0, st149_1, st149_2, st149_3, st149_4, st149_5, st149_6, st149_7, st149_8, st149_9, st149_10, st149_11, st149_12, h.1, f144 b1 h, b6, E_bit S hS p hp, aft_some, Option.toList_some, Option.toList_none, List.cons_append, List.nil_append, br0, br1, br2, br3, zr01, zr02]
  by_cases h9 : S.testBit p = true <;> simp [h9]
theorem f156_lp {d b pg S S0 : Nat} {nd : Nat → Int32} {μ : SMem} (h : MA μ) (hb : BkS μ b pg nd S0) (hS : S < 2 ^ pg) : ∀ k p (u5 : Option SV), p + k = pg → rn (d + 1) 156 4 [some (Sum.inr (Sum.inl (69))), some (Sum.inl (E b)), some (Sum.inl (E S)), some (Sum.inl (E (und nd S p))), some (Sum.inl (E p)), u5] [] μ = some (Sum.inl (some (Sum.inl (E (und nd S pg)))), μ) := by
  obtain ⟨b1, b2, b3, b4, b5, b6, b7, b8⟩ := hb
  have hS9 : S < 256 := Nat.lt_of_lt_of_le hS (Nat.le_trans (Nat.pow_le_pow_right (by decide) (show pg ≤ 8 by omega)) (by decide))
  intro k
  induction k with
  | zero =>
    intro p u5 hp
    have : p = pg := by omega
    subst this
    rw [st156_4]
    simp only [st156_0, st156_1, st156_2, st156_3, st156_5, st156_6, st156_7, st156_8, st156_9, st156_10, st156_11, st156_12, st156_13, st156_14, st156_15, st156_16, st156_17, st156_18, st156_19, st156_20, st156_21, st156_22, st156_23, st156_24, st156_25, st156_26, st156_27, st156_28, st156_29, st156_30, st156_31, st156_32, st156_33, st156_34, st156_35, st156_36, st156_37, st156_38, st156_39, h.1, f143 b1 h, b5, aft_some, Option.toList_some, Option.toList_none, List.cons_append, List.nil_append, br0, br1, br2, br3, zr01, zr02, Int32.le_refl, if_true]
  | succ k ih =>
    intro p u5 hp
    have hp8 : p < 8 := by omega
    have hc : ¬ E pg ≤ E p := by rw [E_le (by omega) (by omega)]; omega
    have hu := und_lt (nd := nd) (S := S) p (by omega)
    have e1 : E p + 1 = E (p + 1) := E_add p 1
    have ihs := ih (p + 1) (some (Sum.inl (nd p))) (by omega)
    rw [und_s p] at ihs
    rw [st156_4]
    simp only [st156_0, st156_1, st156_2, st156_3, st156_5, st156_6, st156_7, st156_8, st156_9, st156_10, st156_11, st156_12, st156_13, st156_14, st156_15, st156_16, st156_17, st156_18, st156_19, st156_20, st156_21, st156_22, st156_23, st156_24, st156_25, st156_26, st156_27, st156_28, st156_29, st156_30, st156_31, st156_32, st156_33, st156_34, st156_35, st156_36, st156_37, st156_38, st156_39, h.1, f143 b1 h, b5, f146 b1 hp8 h, b7 p hp8, hc, if_false, E_bit S hS9 p hp8, aft_some, Option.toList_some, Option.toList_none, List.cons_append, List.nil_append, br0, br1, br2, br3, zr01, zr02]
    by_cases hbit : S.testBit p = true
    · rcases b8 p hp8 with hn | ⟨q, hq, hn⟩
      · have hlt : nd p < 0 := by rw [hn]; decide
        simp only [hbit, hlt, true_or, and_self, if_true] at ihs ⊢
        simp only [e1, E_or1 _ hu p hp8]
        simpa using ihs
      · have hlt : ¬ nd p < 0 := by rw [hn]; exact Int32.not_lt.mpr (E_nonneg (by omega))
        have hq9 : (nd p).toNatClampNeg = q := by rw [hn]; exact E_nn (by omega)
        rw [hn] at ihs ⊢
        rw [hn] at hlt hq9
        rw [hq9] at ihs
        have eb := E_bit _ hu q (by omega)
        by_cases hqb : (und nd S p).testBit q = true
        · simp only [hbit, hlt, hqb, or_true, and_self, if_true, if_false] at ihs eb ⊢
          simp only [e1, eb, E_or1 _ hu p hp8]
          simpa using ihs
        · simp only [hbit, hlt, hqb, or_self, and_false, if_true, if_false] at ihs eb ⊢
          simp only [e1, eb]
          simpa using ihs
    · simp only [hbit, false_and, if_false] at ihs ⊢
      simp only [e1]
      simpa using ihs
theorem f156 {d b pg S S0 : Nat} {nd : Nat → Int32} {μ : SMem} (h : MA μ) (hb : BkS μ b pg nd S0) (hS : S < 2 ^ pg) : cl (d + 1) 156 [Sum.inr (Sum.inl (69)), Sum.inl (E b), Sum.inl (E S)] μ = some (Sum.inl (some (Sum.inl (E (und nd S 8)))), μ) := by
  have hS9 : S < 256 := Nat.lt_of_lt_of_le hS (Nat.le_trans (Nat.pow_le_pow_right (by decide) (show pg ≤ 8 by have := hb.2.2.1; omega)) (by decide))
  have e9 : und nd S 8 = und nd S pg := by have := und_stop (nd := nd) hS9 (show pg ≤ 8 by have := hb.2.2.1; omega) hS (8 - pg) (by have := hb.2.2.1; omega); rwa [show pg + (8 - pg) = 8 by have := hb.2.2.1; omega] at this
  show rn (d + 1) 156 0 [some (Sum.inr (Sum.inl (69))), some (Sum.inl (E b)), some (Sum.inl (E S)), none, none, none] [] μ = _
  simp only [st156_0, st156_1, st156_2, st156_3]
  rw [e9]
  exact f156_lp h hb hS pg 0 none (by omega)
/-- the number of bits, as the reference counts -/
def pcr : Nat → Nat → Nat
  | 0, _ => 0
  | k + 1, v => v % 2 + pcr k (v / 2)
theorem pcr_pcn : ∀ n, n < 256 → pcr 8 n = pcn n := by decide +kernel
theorem f153_st : ∀ v, v < 256 → (E v &&& 1 = E (v % 2)) ∧ (E v >>> ((1 : Int32) &&& 31) = E (v / 2)) := by decide +kernel
theorem f153_lp {d : Nat} {x0 : Int32} {μ : SMem} : ∀ k v n, v < 2 ^ k → k ≤ 8 → rn d 153 4 [some (Sum.inl (x0)), some (Sum.inl (E n)), some (Sum.inl (E v))] [] μ = some (Sum.inl (some (Sum.inl (E (n + pcr k v)))), μ) := by
  intro k
  induction k with
  | zero =>
    intro v n hv hk
    have : v = 0 := by omega
    subst this
    rw [st153_4]
    simp only [st153_0, st153_1, st153_2, st153_3, st153_5, st153_6, st153_7, st153_8, st153_9, st153_10, st153_11, st153_12, st153_13, st153_14, st153_15, st153_16, st153_17, st153_18, show E 0 ≤ 0 from by decide, if_true]
    rfl
  | succ k ih =>
    intro v n hv hk
    have hv9 : v < 256 := Nat.lt_of_lt_of_le hv (Nat.le_trans (Nat.pow_le_pow_right (by decide) hk) (by decide))
    obtain ⟨s1, s2⟩ := f153_st v hv9
    by_cases h0 : v = 0
    · subst h0
      have hz : ∀ k, pcr k 0 = 0 := by
        intro k
        induction k with
        | zero => rfl
        | succ k ih => simp [pcr, ih]
      rw [hz, st153_4]
      simp only [st153_0, st153_1, st153_2, st153_3, st153_5, st153_6, st153_7, st153_8, st153_9, st153_10, st153_11, st153_12, st153_13, st153_14, st153_15, st153_16, st153_17, st153_18, show E 0 ≤ 0 from by decide, if_true]
      rfl
    · have hc : ¬ E v ≤ 0 := by rw [E_0, E_le (by omega) (by decide)]; omega
      rw [st153_4]
      simp only [st153_0, st153_1, st153_2, st153_3, st153_5, st153_6, st153_7, st153_8, st153_9, st153_10, st153_11, st153_12, st153_13, st153_14, st153_15, st153_16, st153_17, st153_18, hc, if_false, s1, s2, E_add]
      rw [ih (v / 2) (n + v % 2) (by rw [Nat.pow_succ] at hv; omega) (by omega)]
      rw [show pcr (k + 1) v = v % 2 + pcr k (v / 2) from rfl, Nat.add_assoc]
theorem f153 {d n : Nat} (hn : n < 256) {μ : SMem} : cl d 153 [Sum.inl (E n)] μ = some (Sum.inl (some (Sum.inl (E (pcn n)))), μ) := by
  show rn d 153 0 [some (Sum.inl (E n)), none, none] [] μ = _
  simp only [st153_0, st153_1, st153_2, st153_3]
  have := f153_lp (d := d) (x0 := E n) (μ := μ) 8 n 0 (by omega) (by omega)
  rw [Nat.zero_add, pcr_pcn n hn] at this
  exact this
theorem Ek1 : ∀ k, k < 8 → ((E k = (1 : Int32)) ↔ k = 1) := by decide +kernel
theorem Ek2 : ∀ k, k < 8 → ((E k = (2 : Int32)) ↔ k = 2) := by decide +kernel
theorem Ek3 : ∀ k, k < 8 → ((E k = (3 : Int32)) ↔ k = 3) := by decide +kernel
theorem Ek4 : ∀ k, k < 8 → ((E k = (4 : Int32)) ↔ k = 4) := by decide +kernel
theorem Ek5 : ∀ k, k < 8 → ((E k = (5 : Int32)) ↔ k = 5) := by decide +kernel
theorem Ek6 : ∀ k, k < 8 → ((E k = (6 : Int32)) ↔ k = 6) := by decide +kernel
theorem Ek7 : ∀ k, k < 8 → ((E k = (7 : Int32)) ↔ k = 7) := by decide +kernel
theorem E_2m (n : Nat) : (2 : Int32) * E n = E (n * 2) := by rw [show (2 : Int32) = E 2 from rfl, E_mul, Nat.mul_comm]
theorem f157 {d b k f pg S : Nat} {nd : Nat → Int32} (hk : k < 8) (hf : f < 10) {μ : SMem} (h : MA μ) (hb : BkS μ b pg nd S) : cl (d + 2) 157 [Sum.inr (Sum.inl (69)), Sum.inl (E k), Sum.inl (E f), Sum.inl (E b)] μ = some (Sum.inl (some (Sum.inl (E (wor k f pg nd S)))), μ) := by
  have hu := und_lt (nd := nd) (S := S) 8 (by omega)
  have hq : f % pg < 8 := by have := hb.2.1; have := hb.2.2.1; have := Nat.mod_lt f (show 0 < pg by omega); omega
  have h156 := fun d => f156 (d := d) h hb hb.2.2.2.1
  obtain ⟨b1, b2, b3, b4, b5, b6, b7, b8⟩ := hb
  have c2 : ¬ E pg = 0 := by rw [E_0, E_inj (by omega) (by decide)]; omega
  show rn (d + 2) 157 0 [some (Sum.inr (Sum.inl (69))), some (Sum.inl (E k)), some (Sum.inl (E f)), some (Sum.inl (E b)), none, none] [] μ = _
  simp only [st157_0, st157_1, st157_2, st157_3, st157_4, st157_5, st157_6, st157_7, st157_8, st157_9, st157_10, st157_11, st157_12, st157_13, st157_14, st157_15, st157_16, st157_17, st157_18, st157_19, st157_20, st157_21, st157_22, st157_23, st157_24, st157_25, st157_26, st157_27, st157_28, st157_29, st157_30, st157_31, st157_32, st157_33, st157_34, st157_35, st157_36, st157_37, st157_38, h.1, f144 b1 h, b6, h156, f153 hu, f143 b1 h, b5, c2, if_false, Ek2 k hk, Ek3 k hk, Ek4 k hk, Ek5 k hk, Ek6 k hk, Ek7 k hk, E_rem f hf pg b3 b2, E_bit _ hu _ hq, E_2m, E_add, aft_some, Option.toList_some, Option.toList_none, List.cons_append, List.nil_append, br0, br1, br2, br3, zr01, zr02]
  unfold wor ktim
  by_cases hb9 : (und nd S 8).testBit (f % pg) = true <;> (have hk9 : k = 0 ∨ k = 1 ∨ k = 2 ∨ k = 3 ∨ k = 4 ∨ k = 5 ∨ k = 6 ∨ k = 7 := by omega) <;> rcases hk9 with rfl | rfl | rfl | rfl | rfl | rfl | rfl | rfl <;> simp [hb9, E_add] <;> rfl
/-- reader r in the row s -/
def RdS (μ : SMem) (r k f : Nat) : Prop := r < 6 ∧ k < 8 ∧ f < 10 ∧ gi μ 70 (75 + 2 * r) = E k ∧ gi μ 70 (76 + 2 * r) = E f
theorem f158 {d b r k f pg S : Nat} {nd : Nat → Int32} {μ : SMem} (h : MA μ) (hr : RdS μ r k f) (hb : BkS μ b pg nd S) : cl (d + 3) 158 [Sum.inr (Sum.inl (69)), Sum.inl (E r), Sum.inl (E b)] μ = some (Sum.inl (some (Sum.inl (E (wor k f pg nd S)))), μ) := by
  obtain ⟨r1, r2, r3, r4, r5⟩ := hr
  show rn (d + 3) 158 0 [some (Sum.inr (Sum.inl (69))), some (Sum.inl (E r)), some (Sum.inl (E b))] [] μ = _
  simp only [st158_0, st158_1, st158_2, st158_3, st158_4, st158_5, st158_6, st158_7, st158_8, st158_9, h.1, f150 r1 h, r4, f151 r1 h, r5, f157 r2 r3 h hb, aft_some, Option.toList_some, Option.toList_none, List.cons_append, List.nil_append, br0, br1, br2, br3, zr01, zr02]
theorem ite_neg2 {c : Prop} [Decidable c] {a b : Int32} {z : Int32 × Int32} (h1 : z.1 < 0 → z.2 = -1) (h2 : ¬ a < 0) (h3 : (if c then (a, b) else z).1 < 0) : (if c then (a, b) else z).2 = -1 := by
  by_cases hc : c
  · rw [if_pos hc] at h3; exact absurd h3 h2
  · rw [if_neg hc] at h3 ⊢; exact h1 h3
theorem kst_neg {g : Bool} {nd : Nat → Int32} {S : Nat} : ∀ p, p ≤ 8 → (kst g nd S p).1 < 0 → (kst g nd S p).2 = -1 := by
  intro p
  induction p with
  | zero => intro _ _; rfl
  | succ p ih =>
    intro hp h
    rw [kst_s p] at h ⊢
    exact ite_neg2 (ih (by omega)) (Int32.not_lt.mpr (E_nonneg (show p < 2147483648 by omega))) h
theorem kst_stop {g : Bool} {nd : Nat → Int32} {S p : Nat} (hS : S < 256) (hp : p ≤ 8) (h : S < 2 ^ p) : ∀ k, p + k ≤ 8 → kst g nd S (p + k) = kst g nd S p := by
  intro k
  induction k with
  | zero => intro _; rfl
  | succ k ih =>
    intro hk
    have hb := bit_hi S hS p hp h (p + k) (by omega) (by omega)
    show kst g nd S ((p + k) + 1) = _
    rw [kst_s (p + k), if_neg (by rw [hb]; simp), ih (by omega)]
theorem clr_lt2 : ∀ pg, pg < 9 → ∀ n, n < 2 ^ pg → ∀ p, p < 8 → clr n p < 2 ^ pg := by
  intro pg _ n hn p _
  unfold clr
  split
  · exact Nat.lt_of_le_of_lt (Nat.sub_le _ _) hn
  · exact hn
theorem f159_lp {d b pg S : Nat} {g : Bool} {nd : Nat → Int32} {μ : SMem} (h : MA μ) (hb : BkS μ b pg nd S) : ∀ k p (u6 : Option SV), p + k = pg → rn (d + 2) 159 6 [some (Sum.inr (Sum.inl (69))), some (Sum.inl (E b)), some (Sum.inl (if g = true then 1 else 0)), some (Sum.inl ((kst g nd S p).1)), some (Sum.inl (if (kst g nd S p).1 < 0 then 0 else (kst g nd S p).2)), some (Sum.inl (E p)), u6] [] μ = some (Sum.inl (some (Sum.inl ((kst g nd S pg).1))), μ) := by
  have hS := hb.lt
  have hb0 := hb
  obtain ⟨b1, b2, b3, b4, b5, b6, b7, b8⟩ := hb
  intro k
  induction k with
  | zero =>
    intro p u6 hp
    have : p = pg := by omega
    subst this
    rw [st159_6]
    simp only [st159_0, st159_1, st159_2, st159_3, st159_4, st159_5, st159_7, st159_8, st159_9, st159_10, st159_11, st159_12, st159_13, st159_14, st159_15, st159_16, st159_17, st159_18, st159_19, st159_20, st159_21, st159_22, st159_23, st159_24, st159_25, st159_26, st159_27, st159_28, st159_29, st159_30, st159_31, st159_32, st159_33, st159_34, st159_35, st159_36, st159_37, st159_38, st159_39, st159_40, st159_41, st159_42, st159_43, st159_44, st159_45, st159_46, st159_47, st159_48, st159_49, st159_50, h.1, f143 b1 h, b5, aft_some, Option.toList_some, Option.toList_none, List.cons_append, List.nil_append, br0, br1, br2, br3, zr01, zr02, Int32.le_refl, if_true]
  | succ k ih =>
    intro p u6 hp
    have hp8 : p < 8 := by omega
    have hc : ¬ E pg ≤ E p := by rw [E_le (by omega) (by omega)]; omega
    have e1 : E p + 1 = E (p + 1) := E_add p 1
    have hcl2 := clr_lt2 pg b3 S b4 p hp8
    have hu := und_lt (nd := nd) (S := clr S p) 8 (by omega)
    have ihs := fun u => ih (p + 1) u (by omega)
    rw [st159_6]
    simp only [st159_0, st159_1, st159_2, st159_3, st159_4, st159_5, st159_7, st159_8, st159_9, st159_10, st159_11, st159_12, st159_13, st159_14, st159_15, st159_16, st159_17, st159_18, st159_19, st159_20, st159_21, st159_22, st159_23, st159_24, st159_25, st159_26, st159_27, st159_28, st159_29, st159_30, st159_31, st159_32, st159_33, st159_34, st159_35, st159_36, st159_37, st159_38, st159_39, st159_40, st159_41, st159_42, st159_43, st159_44, st159_45, st159_46, st159_47, st159_48, st159_49, st159_50, h.1, f143 b1 h, b5, hc, if_false, f149 hp8 h hb0, f144 b1 h, b6, E_clr S hS p hp8, f156 h hb0 hcl2, f153 hu, e1, aft_some, Option.toList_some, Option.toList_none, List.cons_append, List.nil_append, br0, br1, br2, br3, zr01, zr02]
    simp only [kst_s p] at ihs
    have hpu : ¬ E p < 0 := Int32.not_lt.mpr (E_nonneg (by omega))
    by_cases hbit : S.testBit p = true
    · by_cases hn : (kst g nd S p).1 < 0
      · have e2 := kst_neg p (by omega) hn
        have c1 : (-1 : Int32) < E (pcn (und nd (clr S p) 8)) := by
          have := E_nonneg (a := pcn (und nd (clr S p) 8)) (by have := pcn_le _ hu; omega)
          exact Int32.lt_of_lt_of_le (by decide) this
        have c2 : (-1 : Int32) ≤ E (pcn (und nd (clr S p) 8)) := Int32.le_of_lt c1
        rw [e2] at ihs
        cases g <;> simp only [hbit, c1, c2, if_true, true_and, and_self, hpu, if_false, Bool.false_eq_true] at ihs <;> simp only [hbit, hn, if_true, if_false, Bool.false_eq_true, not_true] <;> simpa using ihs _
      · cases g
        · by_cases hm : (kst false nd S p).2 < E (pcn (und nd (clr S p) 8))
          · simp only [hbit, hm, if_true, true_and, and_self, hpu, if_false, Bool.false_eq_true] at ihs
            simp only [hbit, hn, hm, if_true, if_false, Bool.false_eq_true, not_true]
            simpa using ihs _
          · simp only [hbit, hm, hn, if_true, and_false, hpu, if_false, Bool.false_eq_true] at ihs
            simp only [hbit, hn, hm, if_true, if_false, Bool.false_eq_true, not_true]
            simpa using ihs _
        · by_cases hm : (kst true nd S p).2 ≤ E (pcn (und nd (clr S p) 8))
          · simp only [hbit, hm, if_true, true_and, and_self, hpu, if_false, Bool.false_eq_true] at ihs
            simp only [hbit, hn, hm, if_true, if_false, Bool.false_eq_true, not_true]
            simpa using ihs _
          · simp only [hbit, hm, hn, if_true, and_false, hpu, if_false, Bool.false_eq_true] at ihs
            simp only [hbit, hn, hm, if_true, if_false, Bool.false_eq_true, not_true]
            simpa using ihs _
    · simp only [hbit, false_and, if_false, Bool.false_eq_true] at ihs
      simp only [hbit, if_true, if_false, Bool.false_eq_true, not_false_iff]
      simpa using ihs _
theorem f159 {d b pg S : Nat} {g : Bool} {nd : Nat → Int32} {μ : SMem} (h : MA μ) (hb : BkS μ b pg nd S) : cl (d + 2) 159 [Sum.inr (Sum.inl (69)), Sum.inl (E b), Sum.inl (if g = true then 1 else 0)] μ = some (Sum.inl (some (Sum.inl ((kst g nd S 8).1))), μ) := by
  have e9 : kst g nd S 8 = kst g nd S pg := by have := kst_stop (g := g) (nd := nd) hb.lt (show pg ≤ 8 by have := hb.2.2.1; omega) hb.2.2.2.1 (8 - pg) (by have := hb.2.2.1; omega); rwa [show pg + (8 - pg) = 8 by have := hb.2.2.1; omega] at this
  show rn (d + 2) 159 0 [some (Sum.inr (Sum.inl (69))), some (Sum.inl (E b)), some (Sum.inl (if g = true then 1 else 0)), none, none, none, none] [] μ = _
  simp only [st159_0, st159_1, st159_2, st159_3, st159_4, st159_5]
  rw [e9]
  exact f159_lp h hb pg 0 none (by omega)
