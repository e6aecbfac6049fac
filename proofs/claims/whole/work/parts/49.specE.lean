/-! SPECS E: what one reading takes (of the class), books -/
theorem n10 : ((1 : Int32) = 0) = False := eq_false (by decide)
theorem n01 : ((0 : Int32) = 1) = False := eq_false (by decide)
theorem E_ltE {a b : Nat} (ha : a < 2147483648) (hb : b < 2147483648) : (E a < E b) = (a < b) := by rw [eq_iff_iff]; exact E_lt ha hb
theorem E_leE {a b : Nat} (ha : a < 2147483648) (hb : b < 2147483648) : (E a ≤ E b) = (a ≤ b) := by rw [eq_iff_iff]; exact E_le ha hb
theorem E_or : ∀ n, n < 256 → ∀ k, k < 256 → E n ||| E k = E (n ||| k) := by
  intro n hn k hk
  have key : ∀ a : Fin 256, ∀ b : Fin 256, E a.1 ||| E b.1 = E (a.1 ||| b.1) := by decide +kernel
  exact key ⟨n, hn⟩ ⟨k, hk⟩
theorem or_lt2 {a b : Nat} (ha : a < 256) (hb : b < 256) : a ||| b < 256 := Nat.or_lt_two_pow (n := 8) ha hb
theorem and_lt2 {a b : Nat} (ha : a < 256) : a &&& b < 256 := Nat.lt_of_le_of_lt Nat.and_le_left ha
theorem p2_lt : ∀ p, p < 8 → 2 ^ p < 256 := by decide
theorem tk4 {f pg S : Nat} {nd : Nat → Int32} : tk 4 f pg nd S = lstF S 0 8 := rfl
/-- the first page taken, as a set -/
def t1v (x : Int32) : Nat := if x < 0 then 0 else 2 ^ x.toNatClampNeg
def t1 (k f pg : Nat) (nd : Nat → Int32) (S : Nat) : Nat := t1v (tk k f pg nd S)
theorem t14 {f pg S : Nat} {nd : Nat → Int32} : t1 4 f pg nd S = t1v (lstF S 0 8) := congrArg t1v tk4
def tor (k f pg : Nat) (nd : Nat → Int32) (S : Nat) : Nat := if k = 4 then t1 4 f pg nd S ||| t1 4 f pg nd (S &&& (255 ^^^ t1 4 f pg nd S)) else t1 k f pg nd S
theorem t1_lt {k f pg S : Nat} {nd : Nat → Int32} (hS : S < 256) (hk : k < 8) (hf : f < 10) (h1 : 1 ≤ pg) (hpg : pg < 9) : t1 k f pg nd S < 256 := by
  unfold t1 t1v
  rcases tk_in (nd := nd) hS hk hf h1 hpg with h | ⟨p, hp, _, h⟩
  · rw [h, if_pos (by decide)]; decide
  · rw [h, if_neg (Int32.not_lt.mpr (E_nonneg (by omega))), E_nn (by omega)]; exact p2_lt p hp
theorem tor_lt {k f pg S : Nat} {nd : Nat → Int32} (hS : S < 256) (hk : k < 8) (hf : f < 10) (h1 : 1 ≤ pg) (hpg : pg < 9) : tor k f pg nd S < 256 := by
  unfold tor
  split
  · exact or_lt2 (t1_lt hS (by decide) hf h1 hpg) (t1_lt (and_lt2 hS) (by decide) hf h1 hpg)
  · exact t1_lt hS hk hf h1 hpg
theorem and_clr : ∀ n, n < 256 → ∀ p, p < 8 → n &&& (255 ^^^ 2 ^ p) = clr n p := by decide +kernel
theorem and_all : ∀ n, n < 256 → n &&& (255 ^^^ 0) = n := by decide +kernel
theorem bit_p2 : ∀ p, p < 8 → ∀ q, q < 8 → (2 ^ p).testBit q = (q == p) := by decide +kernel
theorem tor_4 : ∀ S, S < 256 → S &&& (255 ^^^ tor 4 0 0 (fun _ => 0) S) = lft 4 0 0 (fun _ => 0) S := by decide +kernel
theorem tor_lft4 {f pg S : Nat} {nd : Nat → Int32} (hS : S < 256) : S &&& (255 ^^^ tor 4 f pg nd S) = lft 4 f pg nd S := by
  have e1 : tor 4 f pg nd S = tor 4 0 0 (fun _ => 0) S := by unfold tor; rw [if_pos rfl, if_pos rfl]; simp only [t14]
  have e2 : lft 4 f pg nd S = lft 4 0 0 (fun _ => 0) S := by simp only [lft, tk4, true_and]
  rw [e1, e2]
  exact tor_4 S hS
theorem tor_lftn {k f pg S : Nat} {nd : Nat → Int32} (h4 : ¬ k = 4) (hS : S < 256) (hk : k < 8) (hf : f < 10) (h1 : 1 ≤ pg) (hpg : pg < 9) : S &&& (255 ^^^ tor k f pg nd S) = lft k f pg nd S := by
  unfold tor t1 t1v lft
  rw [if_neg h4]
  rcases tk_in (nd := nd) hS hk hf h1 hpg with h | ⟨p, hp, _, h⟩
  · rw [h, if_pos (by decide), if_pos (by decide)]; exact and_all S hS
  · rw [h, if_neg (Int32.not_lt.mpr (E_nonneg (by omega))), if_neg (Int32.not_lt.mpr (E_nonneg (by omega))), E_nn (by omega), if_neg (fun e => h4 e.1)]
    exact and_clr S hS p hp
theorem tor_lft {k f pg S : Nat} {nd : Nat → Int32} (hS : S < 256) (hk : k < 8) (hf : f < 10) (h1 : 1 ≤ pg) (hpg : pg < 9) : S &&& (255 ^^^ tor k f pg nd S) = lft k f pg nd S := by
  by_cases h4 : k = 4
  · rw [h4]; exact tor_lft4 hS
  · exact tor_lftn h4 hS hk hf h1 hpg
theorem lft_lt {k f pg S : Nat} {nd : Nat → Int32} (hS : S < 256) (hk : k < 8) (hf : f < 10) (h1 : 1 ≤ pg) (hpg : pg < 9) : lft k f pg nd S < 256 := by
  rw [← tor_lft hS hk hf h1 hpg]
  exact and_lt2 hS
theorem lft_lt2 {k f pg S : Nat} {nd : Nat → Int32} (hS : S < 2 ^ pg) (hk : k < 8) (hf : f < 10) (h1 : 1 ≤ pg) (hpg : pg < 9) : lft k f pg nd S < 2 ^ pg := by
  have hS9 : S < 256 := Nat.lt_of_lt_of_le hS (Nat.le_trans (Nat.pow_le_pow_right (by decide) (show pg ≤ 8 by omega)) (by decide))
  rw [← tor_lft hS9 hk hf h1 hpg]
  exact Nat.lt_of_le_of_lt Nat.and_le_left hS
theorem tor_b4 : ∀ S, S < 256 → ∀ q, q < 8 → (tor 4 0 0 (fun _ => 0) S).testBit q = (S.testBit q && !(lft 4 0 0 (fun _ => 0) S).testBit q) := by decide +kernel
theorem tor_bit4 {f pg S : Nat} {nd : Nat → Int32} (hS : S < 256) {q : Nat} (hq : q < 8) : (tor 4 f pg nd S).testBit q = (S.testBit q && !(lft 4 f pg nd S).testBit q) := by
  have e1 : tor 4 f pg nd S = tor 4 0 0 (fun _ => 0) S := by unfold tor; rw [if_pos rfl, if_pos rfl]; simp only [t14]
  have e2 : lft 4 f pg nd S = lft 4 0 0 (fun _ => 0) S := by simp only [lft, tk4, true_and]
  rw [e1, e2]
  exact tor_b4 S hS q hq
theorem tor_bitn {k f pg S : Nat} {nd : Nat → Int32} (h4 : ¬ k = 4) (hS : S < 256) (hk : k < 8) (hf : f < 10) (h1 : 1 ≤ pg) (hpg : pg < 9) {q : Nat} (hq : q < 8) : (tor k f pg nd S).testBit q = (S.testBit q && !(lft k f pg nd S).testBit q) := by
  unfold tor t1 t1v lft
  rw [if_neg h4]
  rcases tk_in (nd := nd) hS hk hf h1 hpg with h | ⟨p, hp, hb, h⟩
  · rw [h, if_pos (by decide), if_pos (by decide)]; simp
  · rw [h, if_neg (Int32.not_lt.mpr (E_nonneg (by omega))), if_neg (Int32.not_lt.mpr (E_nonneg (by omega))), E_nn (by omega), if_neg (fun e => h4 e.1), bit_p2 p hp q hq, clr_bit S hS p hp q hq]
    by_cases e : q = p
    · subst e; simp [hb]
    · have e2 : (q == p) = false := by simp [e]
      rw [e2]
      cases S.testBit q <;> rfl
theorem tor_bit {k f pg S : Nat} {nd : Nat → Int32} (hS : S < 256) (hk : k < 8) (hf : f < 10) (h1 : 1 ≤ pg) (hpg : pg < 9) {q : Nat} (hq : q < 8) : (tor k f pg nd S).testBit q = (S.testBit q && !(lft k f pg nd S).testBit q) := by
  by_cases h4 : k = 4
  · rw [h4]; exact tor_bit4 hS hq
  · exact tor_bitn h4 hS hk hf h1 hpg hq
theorem f49 {d n a k f pg S : Nat} {nd : Nat → Int32} (hS : S < 256) (hpg : pg < 9) (h1 : 1 ≤ pg) (hnd : NdOK nd) {μ : SMem} (h : RdA μ n k f) (hb : BkN μ a pg nd) : cl (d + 3) 49 [Sum.inr (Sum.inl (n)), Sum.inr (Sum.inl (a)), Sum.inl (E S)] μ = some (Sum.inl (some (Sum.inl (E (t1 k f pg nd S)))), μ) := by
  have hrd := h.rd
  have h2 := fun d => ftk (d := d) hS hpg h1 hnd h hb
  show rn (d + 3) 49 0 [some (Sum.inr (Sum.inl (n))), some (Sum.inr (Sum.inl (a))), some (Sum.inl (E S)), none] [] μ = _
  simp only [st49_0, st49_1, st49_2, st49_3_t0, st49_3_t2, st49_3_t3, st49_3_t4, st49_3_t5, st49_3_t6, st49_3_t7, st49_3_t9, st49_4, st49_5, st49_6, st49_7, st49_8, st49_9, st49_10, st49_11, st49_12, st49_3v, st49_3v hrd, h2, aft_some, Option.toList_some, Option.toList_none, List.cons_append, List.nil_append, br0, br1, br2, br3, zr01, zr02]
  unfold t1 t1v
  rcases tk_in (nd := nd) hS h.2.2.1 h.2.2.2 h1 hpg with h9 | ⟨p, hp, _, h9⟩
  · rw [h9]; simp [E]
  · have c : (0 : Int32) ≤ E p := E_nonneg (by omega)
    rw [h9]
    simp [c, Int32.not_lt.mpr c, E_nn (show p < 2147483648 by omega), E_shl1 p (by omega)]
theorem f21 {d n a f pg S : Nat} {nd : Nat → Int32} (hS : S < 256) (hpg : pg < 9) (h1 : 1 ≤ pg) (hnd : NdOK nd) {μ : SMem} (h : RdA μ n 4 f) (hb : BkN μ a pg nd) : cl (d + 4) 21 [Sum.inr (Sum.inl (n)), Sum.inr (Sum.inl (a)), Sum.inl (E S)] μ = some (Sum.inl (some (Sum.inl (E (tor 4 f pg nd S)))), μ) := by
  have hrd := h.rd
  have ht := t1_lt (k := 4) (nd := nd) hS (by decide) h.2.2.2 h1 hpg
  have h2 := fun d => f49 (d := d) hS hpg h1 hnd h hb
  have h3 := fun d => f49 (d := d) (S := S &&& (255 ^^^ t1 4 f pg nd S)) (and_lt2 hS) hpg h1 hnd h hb
  have ht2 := t1_lt (k := 4) (nd := nd) (S := S &&& (255 ^^^ t1 4 f pg nd S)) (and_lt2 hS) (by decide) h.2.2.2 h1 hpg
  show rn (d + 4) 21 0 [some (Sum.inr (Sum.inl (n))), some (Sum.inr (Sum.inl (a))), some (Sum.inl (E S)), none] [] μ = _
  simp only [st21_0, st21_1, st21_2, st21_3, st21_4, st21_5, st21_6, st21_7, st21_8, st21_9, st21_10, st21_11, st21_12, st21_13, st21_14, st21_15, hrd, h2, E_and S hS _ ht, h3, aft_some, Option.toList_some, Option.toList_none, List.cons_append, List.nil_append, br0, br1, br2, br3, zr01, zr02, E_or _ ht _ ht2]
  rfl
/-- what one reading takes, whatever the kind -/
theorem ftor {d n a k f pg S : Nat} {nd : Nat → Int32} (hS : S < 256) (hpg : pg < 9) (h1 : 1 ≤ pg) (hnd : NdOK nd) {μ : SMem} (h : RdA μ n k f) (hb : BkN μ a pg nd) : cl (d + 4) (dvy_4 (tg μ n)) [Sum.inr (Sum.inl (n)), Sum.inr (Sum.inl (a)), Sum.inl (E S)] μ = some (Sum.inl (some (Sum.inl (E (tor k f pg nd S)))), μ) := by
  have hk : k = 0 ∨ k = 1 ∨ k = 2 ∨ k = 3 ∨ k = 4 ∨ k = 5 ∨ k = 6 ∨ k = 7 := by have := h.2.2.1; omega
  rcases hk with rfl | rfl | rfl | rfl | rfl | rfl | rfl | rfl <;> rw [h.1] <;> first | exact f21 hS hpg h1 hnd h hb | exact f49 (d := d + 1) hS hpg h1 hnd h hb
theorem inr {p n : Nat} (hp : p < 2147483648) (hn : n < 2147483648) : (0 ≤ E p ∧ E p < E n) = (p < n) := by
  rw [eq_iff_iff]
  refine ⟨fun h => (E_lt hp hn).mp h.2, fun h => ⟨E_nonneg hp, (E_lt hp hn).mpr h⟩⟩
theorem f7 {d a pg : Nat} {x : Int32} (hpg : pg < 9) {μ : SMem} (h1 : tg μ a = 1) (h2 : gi μ a 2 = E pg) : cl d 7 [Sum.inr (Sum.inl (a)), Sum.inl (x)] μ = some (Sum.inl (some (Sum.inl (if 0 ≤ x ∧ x < E pg then 1 else 0))), μ) := by
  show rn d 7 0 [some (Sum.inr (Sum.inl (a))), some (Sum.inl (x))] [] μ = _
  simp only [st7_0, st7_1, st7_2, st7_3, st7_4, st7_5, st7_6, st7_7, st7_8, st7_9, st7_10, st7_11, st7_12, h1, h2]
  by_cases c1 : x < 0
  · simp [c1, Int32.not_le.mpr c1]
  · by_cases c2 : E pg ≤ x
    · simp [c1, c2, Int32.not_lt.mpr c2]
    · have c3 : ¬ (8 : Int32) ≤ x := by
        intro h
        have a1 := Int32.le_iff_toInt_le.mp h
        have a2 := Int32.lt_iff_toInt_lt.mp (Int32.not_le.mp c2)
        rw [E_toInt (by omega)] at a2
        have a3 : (8 : Int32).toInt = 8 := rfl
        omega
      simp [c1, c2, c3, Int32.not_lt.mp c1, Int32.not_le.mp c2]
theorem f8 {d a pg S : Nat} {x : Int32} (hpg : pg < 9) (hS : S < 256) {μ : SMem} (h1 : tg μ a = 1) (h2 : gi μ a 2 = E pg) (h3 : gi μ a 3 = E S) : cl (d + 1) 8 [Sum.inr (Sum.inl (a)), Sum.inl (x)] μ = some (Sum.inl (some (Sum.inl (if (0 ≤ x ∧ x < E pg) ∧ S.testBit x.toNatClampNeg = true then 1 else 0))), μ) := by
  show rn (d + 1) 8 0 [some (Sum.inr (Sum.inl (a))), some (Sum.inl (x))] [] μ = _
  simp only [st8_0, st8_1, st8_2, st8_3, st8_4, st8_5, st8_6, st8_7, st8_8, st8_9, st8_10, st8_11, st8_12, st8_13, st8_14, h1, f7 hpg h1 h2, h3, aft_some, Option.toList_some, Option.toList_none, List.cons_append, List.nil_append, br0, br1, br2, br3, zr01, zr02]
  by_cases c : 0 ≤ x ∧ x < E pg
  · obtain ⟨p, hp, rfl⟩ := E_of c.1 c.2 (by omega)
    rw [E_bit S hS p (by omega), E_nn (by omega)]
    by_cases hb : S.testBit p = true <;> simp [c, hb]
  · simp [c]
theorem f10 {d a pg : Nat} {x : Int32} (hpg : pg < 9) {μ : SMem} (hb : BkA μ a) (h2 : gi μ a 2 = E pg) : cl (d + 1) 10 [Sum.inr (Sum.inl (a)), Sum.inl (x)] μ = some (Sum.inl (some (Sum.inl (if 0 ≤ x ∧ x < E pg then gi μ (a + 1) x.toNatClampNeg else -4))), μ) := by
  obtain ⟨b1, b2, b3, b4, b5, b6, b7⟩ := hb
  show rn (d + 1) 10 0 [some (Sum.inr (Sum.inl (a))), some (Sum.inl (x))] [] μ = _
  by_cases c : 0 ≤ x ∧ x < E pg
  · obtain ⟨p, hp, rfl⟩ := E_of c.1 c.2 (by omega)
    simp only [st10_0, st10_1, st10_2, st10_3, st10_4, st10_5, st10_6, st10_7, st10_8, st10_9, st10_10, b1, f7 hpg b1 h2, b2, b4, b5, aft_some, Option.toList_some, Option.toList_none, List.cons_append, List.nil_append, br0, br1, br2, br3, zr01, zr02, n10, n01, ne_eq, not_true_eq_false, not_false_eq_true, if_true, if_false, true_and, and_true, and_self, c, E_ge0 (show p < 1000 by omega), E_n (show p < 1000 by omega), show p < 8 by omega]
  · simp only [st10_0, st10_1, st10_2, st10_3, st10_4, st10_5, st10_6, st10_7, st10_8, st10_9, st10_10, b1, f7 hpg b1 h2, aft_some, Option.toList_some, Option.toList_none, List.cons_append, List.nil_append, br0, br1, br2, br3, zr01, zr02, c, if_false, not_false_iff, if_true]
theorem f11 {d a pg : Nat} {x : Int32} (hpg : pg < 9) {μ : SMem} (hb : BkA μ a) (h2 : gi μ a 2 = E pg) : cl (d + 1) 11 [Sum.inr (Sum.inl (a)), Sum.inl (x)] μ = some (Sum.inl (some (Sum.inl (if 0 ≤ x ∧ x < E pg then gi μ (a + 2) x.toNatClampNeg else -4))), μ) := by
  obtain ⟨b1, b2, b3, b4, b5, b6, b7⟩ := hb
  show rn (d + 1) 11 0 [some (Sum.inr (Sum.inl (a))), some (Sum.inl (x))] [] μ = _
  by_cases c : 0 ≤ x ∧ x < E pg
  · obtain ⟨p, hp, rfl⟩ := E_of c.1 c.2 (by omega)
    simp only [st11_0, st11_1, st11_2, st11_3, st11_4, st11_5, st11_6, st11_7, st11_8, st11_9, st11_10, b1, f7 hpg b1 h2, b3, b6, b7, aft_some, Option.toList_some, Option.toList_none, List.cons_append, List.nil_append, br0, br1, br2, br3, zr01, zr02, n10, n01, ne_eq, not_true_eq_false, not_false_eq_true, if_true, if_false, true_and, and_true, and_self, c, E_ge0 (show p < 1000 by omega), E_n (show p < 1000 by omega), show p < 8 by omega]
  · simp only [st11_0, st11_1, st11_2, st11_3, st11_4, st11_5, st11_6, st11_7, st11_8, st11_9, st11_10, b1, f7 hpg b1 h2, aft_some, Option.toList_some, Option.toList_none, List.cons_append, List.nil_append, br0, br1, br2, br3, zr01, zr02, c, if_false, not_false_iff, if_true]
theorem f12 {d a pg : Nat} {x y : Int32} (hpg : pg < 9) {μ : SMem} (hb : BkA μ a) (h2 : gi μ a 2 = E pg) : cl (d + 1) 12 [Sum.inr (Sum.inl (a)), Sum.inl (x), Sum.inl (y)] μ = if (0 ≤ x ∧ x < E pg) ∧ 0 ≤ y ∧ y < x then some (Sum.inl (some (Sum.inl (1))), seti μ (a + 1) x.toNatClampNeg y) else some (Sum.inl (some (Sum.inl (0))), μ) := by
  obtain ⟨b1, b2, b3, b4, b5, b6, b7⟩ := hb
  show rn (d + 1) 12 0 [some (Sum.inr (Sum.inl (a))), some (Sum.inl (x)), some (Sum.inl (y))] [] μ = _
  by_cases c : 0 ≤ x ∧ x < E pg
  · obtain ⟨p, hp, rfl⟩ := E_of c.1 c.2 (by omega)
    by_cases c1 : y < 0
    · simp only [st12_0, st12_1, st12_2, st12_3, st12_4, st12_5, st12_6, st12_7, st12_8, st12_9, st12_10, st12_11, st12_12, st12_13, st12_14, st12_15, st12_16, st12_17, b1, f7 hpg b1 h2, aft_some, Option.toList_some, Option.toList_none, List.cons_append, List.nil_append, br0, br1, br2, br3, zr01, zr02, c, and_self, if_true, not_true, if_false, c1, Int32.not_le.mpr c1, false_and, and_false]
      simp
    · by_cases c2 : y < E p
      · simp only [st12_0, st12_1, st12_2, st12_3, st12_4, st12_5, st12_6, st12_7, st12_8, st12_9, st12_10, st12_11, st12_12, st12_13, st12_14, st12_15, st12_16, st12_17, b1, f7 hpg b1 h2, b2, b4, b5, aft_some, Option.toList_some, Option.toList_none, List.cons_append, List.nil_append, br0, br1, br2, br3, zr01, zr02, c, and_self, if_true, not_true, if_false, c1, c2, Int32.not_lt.mp c1, true_and, and_true, E_ge0 (show p < 1000 by omega), E_n (show p < 1000 by omega), show p < 8 by omega]
        simp
      · simp only [st12_0, st12_1, st12_2, st12_3, st12_4, st12_5, st12_6, st12_7, st12_8, st12_9, st12_10, st12_11, st12_12, st12_13, st12_14, st12_15, st12_16, st12_17, b1, f7 hpg b1 h2, aft_some, Option.toList_some, Option.toList_none, List.cons_append, List.nil_append, br0, br1, br2, br3, zr01, zr02, c, and_self, if_true, not_true, if_false, c1, c2, and_false]
        simp
  · simp only [st12_0, st12_1, st12_2, st12_3, st12_4, st12_5, st12_6, st12_7, st12_8, st12_9, st12_10, st12_11, st12_12, st12_13, st12_14, st12_15, st12_16, st12_17, b1, f7 hpg b1 h2, aft_some, Option.toList_some, Option.toList_none, List.cons_append, List.nil_append, br0, br1, br2, br3, zr01, zr02, c, false_and, if_false, not_false_iff, if_true]
    simp
theorem f13 {d a pg S : Nat} {x y : Int32} (hpg : pg < 9) (hS : S < 256) {μ : SMem} (hb : BkA μ a) (h2 : gi μ a 2 = E pg) (h3 : gi μ a 3 = E S) : cl (d + 2) 13 [Sum.inr (Sum.inl (a)), Sum.inl (x), Sum.inl (y)] μ = if (0 ≤ x ∧ x < E pg) ∧ S.testBit x.toNatClampNeg = true then some (Sum.inl (some (Sum.inl (1))), seti (seti μ a 3 (E (clr S x.toNatClampNeg))) (a + 2) x.toNatClampNeg y) else some (Sum.inl (some (Sum.inl (0))), μ) := by
  obtain ⟨b1, b2, b3, b4, b5, b6, b7⟩ := hb
  show rn (d + 2) 13 0 [some (Sum.inr (Sum.inl (a))), some (Sum.inl (x)), some (Sum.inl (y))] [] μ = _
  by_cases c : (0 ≤ x ∧ x < E pg) ∧ S.testBit x.toNatClampNeg = true
  · obtain ⟨p, hp, rfl⟩ := E_of c.1.1 c.1.2 (by omega)
    simp only [st13_0, st13_1, st13_2, st13_3, st13_4, st13_5, st13_6, st13_7, st13_8, st13_9, st13_10, st13_11, st13_12, st13_13, st13_14, st13_15, st13_16, st13_17, st13_18, st13_19, st13_20, st13_21, st13_22, b1, f8 hpg hS b1 h2 h3, h3, E_clr S hS p (by omega), b3, b6, b7, aft_some, Option.toList_some, Option.toList_none, List.cons_append, List.nil_append, br0, br1, br2, br3, zr01, zr02, gi_seti, gi_setr, gi_setl, gi_setrow, gr_seti, gr_setr, gr_setl, gr_setrow, gl_seti, gl_setr, gl_setl, gl_setrow, tg_seti, tg_setr, tg_setl, tg_setrow, ln_seti, ln_setr, ln_setl, ln_setrow, sz_seti, sz_setr, sz_setl, sz_setrow, sl_seti, sl_setr, sl_setl, sl_setrow, c, and_self, if_true, not_true, not_false_iff, if_false, true_and, E_ge0 (show p < 1000 by omega), E_n (show p < 1000 by omega), show p < 8 by omega]
    simp
  · simp only [st13_0, st13_1, st13_2, st13_3, st13_4, st13_5, st13_6, st13_7, st13_8, st13_9, st13_10, st13_11, st13_12, st13_13, st13_14, st13_15, st13_16, st13_17, st13_18, st13_19, st13_20, st13_21, st13_22, b1, f8 hpg hS b1 h2 h3, aft_some, Option.toList_some, Option.toList_none, List.cons_append, List.nil_append, br0, br1, br2, br3, zr01, zr02, c, if_false, not_false_iff, if_true]
    simp
/-- pages out that a reader holds, of the first k -/
def hb (pg : Nat) (ho : Nat → Int32) (r : Int32) : Nat → Nat
  | 0 => 0
  | p + 1 => if p < pg ∧ ho p = r then hb pg ho r p ||| 1 <<< p else hb pg ho r p
theorem hb_s {pg : Nat} {ho : Nat → Int32} {r : Int32} (p : Nat) : hb pg ho r (p + 1) = if p < pg ∧ ho p = r then hb pg ho r p ||| 1 <<< p else hb pg ho r p := rfl
theorem hb_lt {pg : Nat} {ho : Nat → Int32} {r : Int32} : ∀ p, p ≤ 8 → hb pg ho r p < 256 := by
  intro p
  induction p with
  | zero => intro _; show (0 : Nat) < 256; decide
  | succ p ih =>
    intro h
    have h1 := ih (by omega)
    unfold hb
    split
    · exact or_lt _ h1 p (by omega)
    · exact h1
theorem f14_lp {d a pg : Nat} {r : Int32} (hpg : pg < 9) (hr : 0 ≤ r) {μ : SMem} (hbk : BkA μ a) (h2 : gi μ a 2 = E pg) : ∀ k p, p + k = 8 → rn (d + 2) 14 4 [some (Sum.inr (Sum.inl (a))), some (Sum.inl (r)), some (Sum.inl (E (hb pg (gi μ (a + 2)) r p))), some (Sum.inl (E p))] [] μ = some (Sum.inl (some (Sum.inl (E (hb pg (gi μ (a + 2)) r 8)))), μ) := by
  have hr4 : ¬ (-4 : Int32) = r := by intro e; rw [← e] at hr; exact absurd hr (by decide)
  intro k
  induction k with
  | zero =>
    intro p hp
    have : p = 8 := by omega
    subst this
    rw [st14_4]
    simp only [st14_0, st14_1, st14_2, st14_3, st14_5, st14_6, st14_7, st14_8, st14_9, st14_10, st14_11, st14_12, st14_13, st14_14, st14_15, st14_16, st14_17, st14_18, st14_19, st14_20, st14_21, show (8 : Int32) ≤ E 8 from by decide, if_true]
  | succ k ih =>
    intro p hp
    have hp8 : p < 8 := by omega
    have hc : ¬ (8 : Int32) ≤ E p := by rw [show (8 : Int32) = E 8 from rfl, E_le (by decide) (by omega)]; omega
    have hu := hb_lt (pg := pg) (ho := gi μ (a + 2)) (r := r) p (by omega)
    have e1 : E p + 1 = E (p + 1) := E_add p 1
    have ihs := ih (p + 1) (by omega)
    rw [hb_s p] at ihs
    rw [st14_4]
    simp only [st14_0, st14_1, st14_2, st14_3, st14_5, st14_6, st14_7, st14_8, st14_9, st14_10, st14_11, st14_12, st14_13, st14_14, st14_15, st14_16, st14_17, st14_18, st14_19, st14_20, st14_21, hc, if_false, hbk.1, f11 hpg hbk h2, inr (show p < 2147483648 by omega) (show pg < 2147483648 by omega), E_n (show p < 1000 by omega), aft_some, Option.toList_some, Option.toList_none, List.cons_append, List.nil_append, br0, br1, br2, br3, zr01, zr02, E_or1 _ hu p hp8, e1]
    by_cases c : p < pg
    · by_cases c2 : gi μ (a + 2) p = r
      · simp only [c, c2, and_self, if_true] at ihs
        simpa [c, c2] using ihs
      · simp only [c, c2, and_false, if_false] at ihs
        simpa [c, c2] using ihs
    · simp only [c, false_and, if_false] at ihs
      simpa [c, hr4] using ihs
theorem f14 {d a pg : Nat} {r : Int32} (hpg : pg < 9) (hr : 0 ≤ r) {μ : SMem} (hbk : BkA μ a) (h2 : gi μ a 2 = E pg) : cl (d + 2) 14 [Sum.inr (Sum.inl (a)), Sum.inl (r)] μ = some (Sum.inl (some (Sum.inl (E (hb pg (gi μ (a + 2)) r 8)))), μ) := by
  show rn (d + 2) 14 0 [some (Sum.inr (Sum.inl (a))), some (Sum.inl (r)), none, none] [] μ = _
  simp only [st14_0, st14_1, st14_2, st14_3]
  exact f14_lp hpg hr hbk h2 8 0 rfl
/-- a book takes pages back -/
def tkS (pg S B : Nat) : Nat → Nat
  | 0 => S
  | p + 1 => if p < pg ∧ B.testBit p = true then tkS pg S B p ||| 1 <<< p else tkS pg S B p
def tkM (μ : SMem) (a pg S B : Nat) : Nat → SMem
  | 0 => μ
  | p + 1 => if p < pg ∧ B.testBit p = true then seti (seti (tkM μ a pg S B p) a 3 (E (tkS pg S B (p + 1)))) (a + 2) p (-4) else tkM μ a pg S B p
theorem tkS_s {pg S B : Nat} (p : Nat) : tkS pg S B (p + 1) = if p < pg ∧ B.testBit p = true then tkS pg S B p ||| 1 <<< p else tkS pg S B p := rfl
theorem tkM_s {μ : SMem} {a pg S B : Nat} (p : Nat) : tkM μ a pg S B (p + 1) = if p < pg ∧ B.testBit p = true then seti (seti (tkM μ a pg S B p) a 3 (E (tkS pg S B (p + 1)))) (a + 2) p (-4) else tkM μ a pg S B p := rfl
theorem tkS_lt {pg S B : Nat} (hS : S < 256) : ∀ p, p ≤ 8 → tkS pg S B p < 256 := by
  intro p
  induction p with
  | zero => intro _; exact hS
  | succ p ih =>
    intro h
    have h1 := ih (by omega)
    unfold tkS
    split
    · exact or_lt _ h1 p (by omega)
    · exact h1
theorem tkM_rd {μ : SMem} {a pg S B : Nat} (h3 : gi μ a 3 = E S) : ∀ k, SB (fun c => c = a ∨ c = a + 2) μ (tkM μ a pg S B k) ∧ gi (tkM μ a pg S B k) a 3 = E (tkS pg S B k) ∧ (∀ j, j ≠ 3 → gi (tkM μ a pg S B k) a j = gi μ a j) ∧ ∀ j, gi (tkM μ a pg S B k) (a + 2) j = if j < k ∧ j < pg ∧ B.testBit j = true then -4 else gi μ (a + 2) j := by
  intro k
  induction k with
  | zero => exact ⟨SB.rf, h3, fun _ _ => rfl, fun j => by simp [tkM]⟩
  | succ k ih =>
    obtain ⟨i1, i2, i3, i4⟩ := ih
    by_cases c : k < pg ∧ B.testBit k = true
    · have e : tkM μ a pg S B (k + 1) = seti (seti (tkM μ a pg S B k) a 3 (E (tkS pg S B (k + 1)))) (a + 2) k (-4) := by rw [tkM_s k, if_pos c]
      rw [e]
      refine ⟨i1.tr ((SB.se (Or.inl rfl)).tr (SB.se (Or.inr rfl))), ?_, ?_, ?_⟩
      · rw [gi_seti, if_neg (by omega), gi_seti, if_pos ⟨rfl, rfl⟩]
      · intro j hj
        rw [gi_seti, if_neg (by omega), gi_seti, if_neg (by omega), i3 j hj]
      · intro j
        rw [gi_seti, gi_seti, i4]
        by_cases e : j = k
        · subst e
          simp [c]
        · have : (j < k + 1) = (j < k) := by rw [eq_iff_iff]; omega
          simp [e, this]
    · have e : tkM μ a pg S B (k + 1) = tkM μ a pg S B k := by rw [tkM_s k, if_neg c]
      have e2 : tkS pg S B (k + 1) = tkS pg S B k := by rw [tkS_s k, if_neg c]
      rw [e, e2]
      refine ⟨i1, i2, i3, fun j => ?_⟩
      rw [i4]
      by_cases e : j = k
      · subst e
        have : ¬ (j < j) := by omega
        rw [if_neg (fun h => this h.1), if_neg (fun h => c h.2)]
      · have : (j < k + 1) = (j < k) := by rw [eq_iff_iff]; omega
        simp [this]
theorem BkA.sb {A : Nat → Prop} {μ μ' : SMem} {a : Nat} (hm : BkA μ a) (h : SB A μ μ') : BkA μ' a := by
  obtain ⟨a1, a2, a3, a4, a5, a6, a7⟩ := h
  unfold BkA at *
  rw [a1, a2, a3]
  exact hm
theorem f15_lp {d a pg S B : Nat} (hpg : pg < 9) (hS : S < 256) (hB : B < 256) {μ : SMem} (hbk : BkA μ a) (h2 : gi μ a 2 = E pg) (h3 : gi μ a 3 = E S) : ∀ k p, p + k = 8 → rn (d + 1) 15 2 [some (Sum.inr (Sum.inl (a))), some (Sum.inl (E B)), some (Sum.inl (E p))] [] (tkM μ a pg S B p) = some (Sum.inl none, tkM μ a pg S B 8) := by
  intro k
  induction k with
  | zero =>
    intro p hp
    have : p = 8 := by omega
    subst this
    rw [st15_2]
    simp only [st15_0, st15_1, st15_3, st15_4, st15_5, st15_6, st15_7, st15_8, st15_9, st15_10, st15_11, st15_12, st15_13, st15_14, st15_15, st15_16, st15_17, st15_18, st15_19, st15_20, st15_21, st15_22, st15_23, st15_24, st15_25, st15_26, st15_27, st15_28, st15_29, st15_30, show (8 : Int32) ≤ E 8 from by decide, if_true]
  | succ k ih =>
    intro p hp
    have hp8 : p < 8 := by omega
    have hc : ¬ (8 : Int32) ≤ E p := by rw [show (8 : Int32) = E 8 from rfl, E_le (by decide) (by omega)]; omega
    have hu := tkS_lt (pg := pg) (B := B) hS p (by omega)
    have e1 : E p + 1 = E (p + 1) := E_add p 1
    obtain ⟨i1, i2, i3, i4⟩ := tkM_rd (pg := pg) (B := B) h3 p
    obtain ⟨b1, b2, b3, b4, b5, b6, b7⟩ := hbk.sb i1
    have q2 : gi (tkM μ a pg S B p) a 2 = E pg := (i3 2 (by decide)).trans h2
    have ihs := ih (p + 1) (by omega)
    rw [st15_2]
    simp only [st15_0, st15_1, st15_3, st15_4, st15_5, st15_6, st15_7, st15_8, st15_9, st15_10, st15_11, st15_12, st15_13, st15_14, st15_15, st15_16, st15_17, st15_18, st15_19, st15_20, st15_21, st15_22, st15_23, st15_24, st15_25, st15_26, st15_27, st15_28, st15_29, st15_30, hc, if_false, b1, f7 hpg b1 q2, E_ltE (show p < 2147483648 by omega) (show pg < 2147483648 by omega), E_bit B hB p hp8, i2, E_or1 _ hu p hp8, aft_some, Option.toList_some, Option.toList_none, List.cons_append, List.nil_append, br0, br1, br2, br3, zr01, zr02, gi_seti, gi_setr, gi_setl, gi_setrow, gr_seti, gr_setr, gr_setl, gr_setrow, gl_seti, gl_setr, gl_setl, gl_setrow, tg_seti, tg_setr, tg_setl, tg_setrow, ln_seti, ln_setr, ln_setl, ln_setrow, sz_seti, sz_setr, sz_setl, sz_setrow, sl_seti, sl_setr, sl_setl, sl_setrow, b3, b6, b7, E_ge0 (show p < 1000 by omega), E_n (show p < 1000 by omega), hp8, true_and, and_self, e1]
    rw [tkM_s p] at ihs
    by_cases c : p < pg
    · by_cases c2 : B.testBit p = true
      · have e3 : tkS pg S B (p + 1) = tkS pg S B p ||| 1 <<< p := by rw [tkS_s p, if_pos ⟨c, c2⟩]
        simp only [c, c2, and_self, if_true, e3] at ihs
        simpa [c, c2] using ihs
      · simp only [c, c2, and_false, if_false] at ihs
        simpa [c, c2] using ihs
    · simp only [c, false_and, if_false] at ihs
      simpa [c] using ihs
theorem f15 {d a pg S B : Nat} (hpg : pg < 9) (hS : S < 256) (hB : B < 256) {μ : SMem} (hbk : BkA μ a) (h2 : gi μ a 2 = E pg) (h3 : gi μ a 3 = E S) : cl (d + 1) 15 [Sum.inr (Sum.inl (a)), Sum.inl (E B)] μ = some (Sum.inl none, tkM μ a pg S B 8) := by
  show rn (d + 1) 15 0 [some (Sum.inr (Sum.inl (a))), some (Sum.inl (E B)), none] [] μ = _
  simp only [st15_0, st15_1]
  exact f15_lp hpg hS hB hbk h2 h3 8 0 rfl
