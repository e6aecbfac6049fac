/-! SPECS ZP: a new reader; a shelf that changes -/
theorem tg_al {μ : SMem} {t n w : Nat} : tg (alloc μ t n w) (sz μ) = t := by
  show up1 μ.2.1 μ.1.1 t μ.1.1 = t
  rw [up1, if_pos rfl]
theorem f44 {d n : Nat} {y : Int32} {μ : SMem} (hn : n ≠ 0) (hr : isRd (tg μ n) = true) : cl d 44 [Sum.inr (Sum.inl (n)), Sum.inl (y)] μ = some (Sum.inl none, seti μ n 0 y) := by
  show rn d 44 0 [some (Sum.inr (Sum.inl (n))), some (Sum.inl (y))] [] μ = _
  rw [st44_0, st44_1 hn, st44_2, st44_3, st44_4 hr, st44_5]
theorem f23 {d n : Nat} {y : Int32} {μ : SMem} (hn : n ≠ 0) (hr : isRd (tg μ n) = true) : cl (d + 1) 23 [Sum.inr (Sum.inl (n)), Sum.inl (y)] μ = some (Sum.inl none, seti μ n 0 y) := by
  show rn (d + 1) 23 0 [some (Sum.inr (Sum.inl (n))), some (Sum.inl (y))] [] μ = _
  rw [st23_0, st23_1, st23_2 hn, f44 hn hr]
  simp only [st23_3, aft_some, Option.toList_some, Option.toList_none, List.cons_append, List.nil_append, br0, br1, br2, br3, zr01, zr02, n10, n01, ne_eq, not_true_eq_false, not_false_eq_true, if_true, if_false, true_and, and_true, and_self]
theorem f29 {d n : Nat} {y : Int32} {μ : SMem} (hn : n ≠ 0) (hr : isRd (tg μ n) = true) : cl (d + 1) 29 [Sum.inr (Sum.inl (n)), Sum.inl (y)] μ = some (Sum.inl none, seti μ n 0 y) := by
  show rn (d + 1) 29 0 [some (Sum.inr (Sum.inl (n))), some (Sum.inl (y))] [] μ = _
  rw [st29_0, st29_1, st29_2 hn, f44 hn hr]
  simp only [st29_3, aft_some, Option.toList_some, Option.toList_none, List.cons_append, List.nil_append, br0, br1, br2, br3, zr01, zr02, n10, n01, ne_eq, not_true_eq_false, not_false_eq_true, if_true, if_false, true_and, and_true, and_self]
theorem f38 {d n : Nat} {y : Int32} {μ : SMem} (hn : n ≠ 0) (hr : isRd (tg μ n) = true) : cl (d + 2) 38 [Sum.inr (Sum.inl (n)), Sum.inl (y)] μ = some (Sum.inl none, seti μ n 0 y) := by
  show rn (d + 2) 38 0 [some (Sum.inr (Sum.inl (n))), some (Sum.inl (y))] [] μ = _
  rw [st38_0, st38_1, st38_2 hn, f29 hn hr]
  simp only [st38_3, aft_some, Option.toList_some, Option.toList_none, List.cons_append, List.nil_append, br0, br1, br2, br3, zr01, zr02, n10, n01, ne_eq, not_true_eq_false, not_false_eq_true, if_true, if_false, true_and, and_true, and_self]
theorem f18 {d n : Nat} {y : Int32} {μ : SMem} (hn : n ≠ 0) (hr : isRd (tg μ n) = true) : cl (d + 1) 18 [Sum.inr (Sum.inl (n)), Sum.inl (y)] μ = some (Sum.inl none, seti μ n 0 y) := by
  show rn (d + 1) 18 0 [some (Sum.inr (Sum.inl (n))), some (Sum.inl (y))] [] μ = _
  rw [st18_0, st18_1, st18_2 hn, f44 hn hr]
  simp only [st18_3, aft_some, Option.toList_some, Option.toList_none, List.cons_append, List.nil_append, br0, br1, br2, br3, zr01, zr02, n10, n01, ne_eq, not_true_eq_false, not_false_eq_true, if_true, if_false, true_and, and_true, and_self]
theorem f59 {d n : Nat} {y : Int32} {μ : SMem} (hn : n ≠ 0) (hr : isRd (tg μ n) = true) : cl (d + 1) 59 [Sum.inr (Sum.inl (n)), Sum.inl (y)] μ = some (Sum.inl none, seti μ n 0 y) := by
  show rn (d + 1) 59 0 [some (Sum.inr (Sum.inl (n))), some (Sum.inl (y))] [] μ = _
  rw [st59_0, st59_1, st59_2 hn, f44 hn hr]
  simp only [st59_3, aft_some, Option.toList_some, Option.toList_none, List.cons_append, List.nil_append, br0, br1, br2, br3, zr01, zr02, n10, n01, ne_eq, not_true_eq_false, not_false_eq_true, if_true, if_false, true_and, and_true, and_self]
theorem f33 {d n : Nat} {y : Int32} {μ : SMem} (hn : n ≠ 0) (hr : isRd (tg μ n) = true) : cl (d + 2) 33 [Sum.inr (Sum.inl (n)), Sum.inl (y)] μ = some (Sum.inl none, seti μ n 0 y) := by
  show rn (d + 2) 33 0 [some (Sum.inr (Sum.inl (n))), some (Sum.inl (y))] [] μ = _
  rw [st33_0, st33_1, st33_2 hn, f23 hn hr]
  simp only [st33_3, aft_some, Option.toList_some, Option.toList_none, List.cons_append, List.nil_append, br0, br1, br2, br3, zr01, zr02, n10, n01, ne_eq, not_true_eq_false, not_false_eq_true, if_true, if_false, true_and, and_true, and_self]
theorem f0 {d n : Nat} {y : Int32} {μ : SMem} (hn : n ≠ 0) (hr : isRd (tg μ n) = true) : cl (d + 2) 0 [Sum.inr (Sum.inl (n)), Sum.inl (y)] μ = some (Sum.inl none, seti μ n 0 y) := by
  show rn (d + 2) 0 0 [some (Sum.inr (Sum.inl (n))), some (Sum.inl (y))] [] μ = _
  rw [st0_0, st0_1, st0_2 hn, f23 hn hr]
  simp only [st0_3, aft_some, Option.toList_some, Option.toList_none, List.cons_append, List.nil_append, br0, br1, br2, br3, zr01, zr02, n10, n01, ne_eq, not_true_eq_false, not_false_eq_true, if_true, if_false, true_and, and_true, and_self]
theorem f136n {d : Nat} {x y : Int32} {μ : SMem} (h : ¬ ((0 ≤ x ∧ x ≤ 7) ∧ 0 ≤ y ∧ y ≤ 9)) : cl (d + 3) 136 [Sum.inl (x), Sum.inl (y)] μ = some (Sum.inl (some (Sum.inr (Sum.inl (0)))), μ) := by
  show rn (d + 3) 136 0 [some (Sum.inl (x)), some (Sum.inl (y))] [] μ = _
  by_cases y0 : y < 0
  · simp only [st136_0, st136_1, st136_2, st136_3, st136_4, st136_5, st136_6, st136_7, st136_8, st136_49, st136_50, y0, aft_some, Option.toList_some, Option.toList_none, List.cons_append, List.nil_append, br0, br1, br2, br3, zr01, zr02, n10, n01, ne_eq, not_true_eq_false, not_false_eq_true, if_true, if_false, true_and, and_true, and_self]
  · by_cases y9 : y ≤ 9
    · have hx : ¬ (0 ≤ x ∧ x ≤ 7) := fun e => h ⟨e, Int32.not_lt.mp y0, y9⟩
      have e : ∀ n : Nat, n < 8 → ¬ x = E n := fun n hn e => hx (by rw [e]; exact ⟨E_nonneg (by omega), by rw [show (7 : Int32) = E 7 from rfl, E_le (by omega) (by decide)]; omega⟩)
      have e0 : ¬ x = 0 := e 0 (by decide)
      have e1 : ¬ x = 1 := e 1 (by decide)
      have e2 : ¬ x = 2 := e 2 (by decide)
      have e3 : ¬ x = 3 := e 3 (by decide)
      have e4 : ¬ x = 4 := e 4 (by decide)
      have e5 : ¬ x = 5 := e 5 (by decide)
      have e6 : ¬ x = 6 := e 6 (by decide)
      have e7 : ¬ x = 7 := e 7 (by decide)
      simp only [st136_0, st136_1, st136_2, st136_3, st136_4, st136_5, st136_6, st136_7, st136_8, st136_49, st136_50, y0, y9, e0, e1, e2, e3, e4, e5, e6, e7, aft_some, Option.toList_some, Option.toList_none, List.cons_append, List.nil_append, br0, br1, br2, br3, zr01, zr02, n10, n01, ne_eq, not_true_eq_false, not_false_eq_true, if_true, if_false, true_and, and_true, and_self]
    · simp only [st136_0, st136_1, st136_2, st136_3, st136_4, st136_5, st136_6, st136_7, st136_8, st136_49, st136_50, y0, y9, aft_some, Option.toList_some, Option.toList_none, List.cons_append, List.nil_append, br0, br1, br2, br3, zr01, zr02, n10, n01, ne_eq, not_true_eq_false, not_false_eq_true, if_true, if_false, true_and, and_true, and_self]
theorem f136e {d k f : Nat} {μ : SMem} (hk : k < 8) (hf : f < 10) (hz : sz μ ≠ 0) : cl (d + 3) 136 [Sum.inl (E k), Sum.inl (E f)] μ = some (Sum.inl (some (Sum.inr (Sum.inl (sz μ)))), seti (alloc μ (ktag k) 0 1) (sz μ) 0 (E f)) := by
  have y0 : (E f < 0) = False := E_lt0 (by omega)
  have y9 : (E f ≤ 9) = True := by rw [show (9 : Int32) = E 9 from rfl, E_leE (by omega) (by decide)]; exact eq_true (by omega)
  have z0 := E_z (show k < 1000 by omega)
  have hr : ∀ t, isRd t = true → isRd (tg (alloc μ t 0 1) (sz μ)) = true := fun t h => by rw [tg_al]; exact h
  show rn (d + 3) 136 0 [some (Sum.inl (E k)), some (Sum.inl (E f))] [] μ = _
  have cs : k = 0 ∨ k = 1 ∨ k = 2 ∨ k = 3 ∨ k = 4 ∨ k = 5 ∨ k = 6 ∨ k = 7 := by omega
  have q1 := Ek1 k hk
  have q2 := Ek2 k hk
  have q3 := Ek3 k hk
  have q4 := Ek4 k hk
  have q5 := Ek5 k hk
  have q6 := Ek6 k hk
  have q7 := Ek7 k hk
  rcases cs with h | h | h | h | h | h | h | h
  · have et : ktag k = 7 := by rw [h]; rfl
    rw [et]
    simp only [st136_0, st136_1, st136_2, st136_3, st136_4, st136_5, st136_6, st136_7, st136_8, y0, y9, z0, q1, q2, q3, q4, q5, q6, q7, aft_some, Option.toList_some, Option.toList_none, List.cons_append, List.nil_append, br0, br1, br2, br3, zr01, zr02, n10, n01, ne_eq, not_true_eq_false, not_false_eq_true, if_true, if_false, true_and, and_true, and_self]
    rw [if_pos h]
    simp only [st136_9, st136_10, st136_11, st136_12, st136_13, hz, f44 hz (hr 7 rfl), aft_some, Option.toList_some, Option.toList_none, List.cons_append, List.nil_append, br0, br1, br2, br3, zr01, zr02, n10, n01, ne_eq, not_true_eq_false, not_false_eq_true, if_true, if_false, true_and, and_true, and_self]
  · have et : ktag k = 4 := by rw [h]; rfl
    have n0 : ¬ k = 0 := by omega
    rw [et]
    simp only [st136_0, st136_1, st136_2, st136_3, st136_4, st136_5, st136_6, st136_7, st136_8, y0, y9, z0, q1, q2, q3, q4, q5, q6, q7, n0, aft_some, Option.toList_some, Option.toList_none, List.cons_append, List.nil_append, br0, br1, br2, br3, zr01, zr02, n10, n01, ne_eq, not_true_eq_false, not_false_eq_true, if_true, if_false, true_and, and_true, and_self]
    rw [if_pos h]
    simp only [st136_14, st136_15, st136_16, st136_17, st136_18, hz, f29 hz (hr 4 rfl), aft_some, Option.toList_some, Option.toList_none, List.cons_append, List.nil_append, br0, br1, br2, br3, zr01, zr02, n10, n01, ne_eq, not_true_eq_false, not_false_eq_true, if_true, if_false, true_and, and_true, and_self]
  · have et : ktag k = 3 := by rw [h]; rfl
    have n0 : ¬ k = 0 := by omega
    have n1 : ¬ k = 1 := by omega
    rw [et]
    simp only [st136_0, st136_1, st136_2, st136_3, st136_4, st136_5, st136_6, st136_7, st136_8, y0, y9, z0, q1, q2, q3, q4, q5, q6, q7, n0, n1, aft_some, Option.toList_some, Option.toList_none, List.cons_append, List.nil_append, br0, br1, br2, br3, zr01, zr02, n10, n01, ne_eq, not_true_eq_false, not_false_eq_true, if_true, if_false, true_and, and_true, and_self]
    rw [if_pos h]
    simp only [st136_19, st136_20, st136_21, st136_22, st136_23, hz, f23 hz (hr 3 rfl), aft_some, Option.toList_some, Option.toList_none, List.cons_append, List.nil_append, br0, br1, br2, br3, zr01, zr02, n10, n01, ne_eq, not_true_eq_false, not_false_eq_true, if_true, if_false, true_and, and_true, and_self]
  · have et : ktag k = 6 := by rw [h]; rfl
    have n0 : ¬ k = 0 := by omega
    have n1 : ¬ k = 1 := by omega
    have n2 : ¬ k = 2 := by omega
    rw [et]
    simp only [st136_0, st136_1, st136_2, st136_3, st136_4, st136_5, st136_6, st136_7, st136_8, y0, y9, z0, q1, q2, q3, q4, q5, q6, q7, n0, n1, n2, aft_some, Option.toList_some, Option.toList_none, List.cons_append, List.nil_append, br0, br1, br2, br3, zr01, zr02, n10, n01, ne_eq, not_true_eq_false, not_false_eq_true, if_true, if_false, true_and, and_true, and_self]
    rw [if_pos h]
    simp only [st136_24, st136_25, st136_26, st136_27, st136_28, hz, f38 hz (hr 6 rfl), aft_some, Option.toList_some, Option.toList_none, List.cons_append, List.nil_append, br0, br1, br2, br3, zr01, zr02, n10, n01, ne_eq, not_true_eq_false, not_false_eq_true, if_true, if_false, true_and, and_true, and_self]
  · have et : ktag k = 2 := by rw [h]; rfl
    have n0 : ¬ k = 0 := by omega
    have n1 : ¬ k = 1 := by omega
    have n2 : ¬ k = 2 := by omega
    have n3 : ¬ k = 3 := by omega
    rw [et]
    simp only [st136_0, st136_1, st136_2, st136_3, st136_4, st136_5, st136_6, st136_7, st136_8, y0, y9, z0, q1, q2, q3, q4, q5, q6, q7, n0, n1, n2, n3, aft_some, Option.toList_some, Option.toList_none, List.cons_append, List.nil_append, br0, br1, br2, br3, zr01, zr02, n10, n01, ne_eq, not_true_eq_false, not_false_eq_true, if_true, if_false, true_and, and_true, and_self]
    rw [if_pos h]
    simp only [st136_29, st136_30, st136_31, st136_32, st136_33, hz, f18 hz (hr 2 rfl), aft_some, Option.toList_some, Option.toList_none, List.cons_append, List.nil_append, br0, br1, br2, br3, zr01, zr02, n10, n01, ne_eq, not_true_eq_false, not_false_eq_true, if_true, if_false, true_and, and_true, and_self]
  · have et : ktag k = 0 := by rw [h]; rfl
    have n0 : ¬ k = 0 := by omega
    have n1 : ¬ k = 1 := by omega
    have n2 : ¬ k = 2 := by omega
    have n3 : ¬ k = 3 := by omega
    have n4 : ¬ k = 4 := by omega
    rw [et]
    simp only [st136_0, st136_1, st136_2, st136_3, st136_4, st136_5, st136_6, st136_7, st136_8, y0, y9, z0, q1, q2, q3, q4, q5, q6, q7, n0, n1, n2, n3, n4, aft_some, Option.toList_some, Option.toList_none, List.cons_append, List.nil_append, br0, br1, br2, br3, zr01, zr02, n10, n01, ne_eq, not_true_eq_false, not_false_eq_true, if_true, if_false, true_and, and_true, and_self]
    rw [if_pos h]
    simp only [st136_34, st136_35, st136_36, st136_37, st136_38, hz, f0 hz (hr 0 rfl), aft_some, Option.toList_some, Option.toList_none, List.cons_append, List.nil_append, br0, br1, br2, br3, zr01, zr02, n10, n01, ne_eq, not_true_eq_false, not_false_eq_true, if_true, if_false, true_and, and_true, and_self]
  · have et : ktag k = 9 := by rw [h]; rfl
    have n0 : ¬ k = 0 := by omega
    have n1 : ¬ k = 1 := by omega
    have n2 : ¬ k = 2 := by omega
    have n3 : ¬ k = 3 := by omega
    have n4 : ¬ k = 4 := by omega
    have n5 : ¬ k = 5 := by omega
    rw [et]
    simp only [st136_0, st136_1, st136_2, st136_3, st136_4, st136_5, st136_6, st136_7, st136_8, y0, y9, z0, q1, q2, q3, q4, q5, q6, q7, n0, n1, n2, n3, n4, n5, aft_some, Option.toList_some, Option.toList_none, List.cons_append, List.nil_append, br0, br1, br2, br3, zr01, zr02, n10, n01, ne_eq, not_true_eq_false, not_false_eq_true, if_true, if_false, true_and, and_true, and_self]
    rw [if_pos h]
    simp only [st136_39, st136_40, st136_41, st136_42, st136_43, hz, f59 hz (hr 9 rfl), aft_some, Option.toList_some, Option.toList_none, List.cons_append, List.nil_append, br0, br1, br2, br3, zr01, zr02, n10, n01, ne_eq, not_true_eq_false, not_false_eq_true, if_true, if_false, true_and, and_true, and_self]
  · have et : ktag k = 5 := by rw [h]; rfl
    have n0 : ¬ k = 0 := by omega
    have n1 : ¬ k = 1 := by omega
    have n2 : ¬ k = 2 := by omega
    have n3 : ¬ k = 3 := by omega
    have n4 : ¬ k = 4 := by omega
    have n5 : ¬ k = 5 := by omega
    have n6 : ¬ k = 6 := by omega
    rw [et]
    simp only [st136_0, st136_1, st136_2, st136_3, st136_4, st136_5, st136_6, st136_7, st136_8, y0, y9, z0, q1, q2, q3, q4, q5, q6, q7, n0, n1, n2, n3, n4, n5, n6, aft_some, Option.toList_some, Option.toList_none, List.cons_append, List.nil_append, br0, br1, br2, br3, zr01, zr02, n10, n01, ne_eq, not_true_eq_false, not_false_eq_true, if_true, if_false, true_and, and_true, and_self]
    rw [if_pos h]
    simp only [st136_44, st136_45, st136_46, st136_47, st136_48, hz, f33 hz (hr 5 rfl), aft_some, Option.toList_some, Option.toList_none, List.cons_append, List.nil_append, br0, br1, br2, br3, zr01, zr02, n10, n01, ne_eq, not_true_eq_false, not_false_eq_true, if_true, if_false, true_and, and_true, and_self]
theorem f136 {d k f : Nat} {μ : SMem} (hk : k < 8) (hf : f < 10) (hz : 2 ≤ sz μ) (hu : ∀ c, sz μ ≤ c → tg μ c = 99) : ∃ μ', cl (d + 3) 136 [Sum.inl (E k), Sum.inl (E f)] μ = some (Sum.inl (some (Sum.inr (Sum.inl (sz μ)))), μ') ∧ SG NoC NoC μ μ' ∧ RdA μ' (sz μ) k f ∧ sz μ' = sz μ + 1 ∧ sl μ' = sl μ + 1 := by
  refine ⟨_, f136e hk hf (by omega), ?_, ⟨tg_al (t := ktag k) (n := 0) (w := 1), ?_, hk, hf⟩, rfl, rfl⟩
  · obtain ⟨a1, a2, a3, a4, a5, a6⟩ := SG.al (P := NoC) (Q := NoC) (t := ktag k) (n := 0) (w := 1) hu hz
    refine ⟨a1, fun c j hc hn => ?_, a3, ⟨a4.1, funext fun j => ?_, a4.2.2⟩, a5, a6⟩
    · rw [gi_seti, if_neg (fun e => hc (by rw [e.1]; exact hu _ (Nat.le_refl _)))]
      exact a2 c j hc hn
    · rw [gi_seti, if_neg (fun e => by have := e.1; omega), a4.2.1]
  · rw [gi_seti, if_pos ⟨rfl, rfl⟩]
theorem f55 {d e n : Nat} {μ : SMem} (h8 : tg μ (53 + 2 * e) = 8) : cl d 55 [Sum.inr (Sum.inl (53 + 2 * e)), Sum.inr (Sum.inl (n))] μ = some (Sum.inl none, seti (seti (setr μ (53 + 2 * e) 0 n) (53 + 2 * e) 1 0) (53 + 2 * e) 3 0) := by
  show rn d 55 0 [some (Sum.inr (Sum.inl (53 + 2 * e))), some (Sum.inr (Sum.inl (n)))] [] μ = _
  simp only [st55_0, st55_1, st55_2, st55_3, st55_4, st55_5, st55_6, st55_7, st55_8, st55_9, h8, gi_seti, gi_setr, gi_setl, gi_setrow, gr_seti, gr_setr, gr_setl, gr_setrow, gl_seti, gl_setr, gl_setl, gl_setrow, tg_seti, tg_setr, tg_setl, tg_setrow, ln_seti, ln_setr, ln_setl, ln_setrow, sz_seti, sz_setr, sz_setl, sz_setrow, sl_seti, sl_setr, sl_setl, sl_setrow, aft_some, Option.toList_some, Option.toList_none, List.cons_append, List.nil_append, br0, br1, br2, br3, zr01, zr02, n10, n01, ne_eq, not_true_eq_false, not_false_eq_true, if_true, if_false, true_and, and_true, and_self, true_or]
def PSh (e : Nat) (c j : Nat) : Prop := c = 53 + 2 * e ∨ c = 54 + 2 * e ∨ ((c = 74 ∨ c = 75 ∨ c = 76 ∨ c = 78 ∨ c = 79) ∧ j = e) ∨ (c = 77 ∧ 100 * e ≤ j ∧ j < 100 * e + 100)
def QSh (e : Nat) (c j : Nat) : Prop := c = 53 + 2 * e ∧ j = 0
theorem ShM.sg {P Q : Nat → Nat → Prop} {μ μ' : SMem} {e : Nat} {H : HT} (h : ShM μ e H) (hm : MA μ) (hs : SG P Q μ μ') (hp : ∀ c j, P c j → ¬ ((c = 74 ∨ c = 75 ∨ c = 76 ∨ c = 78 ∨ c = 79) ∧ j = e) ∧ ¬ (c = 77 ∧ 100 * e ≤ j ∧ j < 100 * e + 100)) : ShM μ' e H := by
  obtain ⟨m1, m2, m3, m4, m5, m6, m7, m8, m9, m10, m11, m12, m13, m14, ⟨t0, t1, t2, t3, t4, t5, t6, t7, t8, t9, t10, t11, t12⟩, l0, l1, l2, l3, l4, l5, l6, l7, l8, l9, l10, l11, l12⟩ := hm
  obtain ⟨h1, h2, h3, h4⟩ := h
  have k : ∀ c, tg μ c = 50 → (c = 74 ∨ c = 75 ∨ c = 76 ∨ c = 78 ∨ c = 79) → gi μ' c e = gi μ c e := fun c ht hc => hs.2.1 c e (by rw [ht]; decide) (fun q => (hp c e q).1 ⟨hc, rfl⟩)
  refine ⟨by rw [k 74 t4 (by omega)]; exact h1, fun q => ?_, fun q => ?_, fun i hi => ?_⟩
  · rw [k 75 t5 (by omega), k 76 t6 (by omega)]; exact h2 q
  · rw [k 78 t8 (by omega), k 79 t9 (by omega)]; exact h3 q
  · rw [hs.2.1 77 _ (by rw [t7]; decide) (fun q => (hp _ _ q).2 ⟨rfl, by omega, by omega⟩)]; exact h4 i hi
theorem LBs.sg {P Q : Nat → Nat → Prop} {μ μ' : SMem} {H : HT} (h : LBs μ H) (hs : SG P Q μ μ') : LBs μ' H :=
  ⟨by rw [hs.2.2.2.1.2.2]; exact h.1, fun j => by rw [hs.2.2.2.1.2.1]; exact h.2.1 j, by rw [(hs.1 83 (by rw [h.2.2.1]; decide)).1]; exact h.2.2.1, by rw [(hs.1 83 (by rw [h.2.2.1]; decide)).2]; exact h.2.2.2⟩
theorem INVw.tagP {e : Nat} {A Ai : AT} {im : Nat} {Hs : Nat → HT} {μ : SMem} (h : INVw μ A Ai im Hs) (he : e < 8) : ∀ c j, PSh e c j → isRd (tg μ c) = false ∧ 53 ≤ c ∧ c ≠ 69 ∧ c ≠ 70 ∧ c ≠ 71 ∧ c ≠ 72 ∧ c ≠ 73 := by
  obtain ⟨x1, x2, x3, x4, x5⟩ := h.1.2.1.2.2.2.2.2.2.2.2.2.2.2 e he
  have hm := h.1.1
  obtain ⟨m1, m2, m3, m4, m5, m6, m7, m8, m9, m10, m11, m12, m13, m14, ⟨t0, t1, t2, t3, t4, t5, t6, t7, t8, t9, t10, t11, t12⟩, l0, l1, l2, l3, l4, l5, l6, l7, l8, l9, l10, l11, l12⟩ := hm
  intro c j hp
  unfold PSh at hp
  have : tg μ c = 8 ∨ tg μ c = 50 := by
    rcases hp with q | q | ⟨q | q | q | q | q, _⟩ | ⟨q, _⟩ <;> subst q
    · exact Or.inl x2
    · exact Or.inr x4
    · exact Or.inr t4
    · exact Or.inr t5
    · exact Or.inr t6
    · exact Or.inr t8
    · exact Or.inr t9
    · exact Or.inr t7
  refine ⟨by rcases this with q | q <;> rw [q] <;> rfl, by omega, by omega, by omega, by omega, by omega, by omega⟩
theorem INVw.sh {e : Nat} {A Ai : AT} {im : Nat} {Hs : Nat → HT} {H' : HT} {μ μ' : SMem} (h : INVw μ A Ai im Hs) (he : e < 8) (hs : SG (PSh e) (QSh e) μ μ') (hH : HWF H') (hC : ShC μ' e H') (hM : ShM μ' e H') : INVw μ' A Ai im (up1 Hs e H') := by
  have h0 := h
  have tp := h.tagP he
  obtain ⟨⟨hm, hc, hw, ht, hr⟩, ⟨hs18, hs33⟩, ⟨i1, i2, i3, i4⟩, hsh, h84, hu⟩ := h
  have hm0 := hm
  obtain ⟨m1, m2, m3, m4, m5, m6, m7, m8, m9, m10, m11, m12, m13, m14, ⟨t0, t1, t2, t3, t4, t5, t6, t7, t8, t9, t10, t11, t12⟩, l0, l1, l2, l3, l4, l5, l6, l7, l8, l9, l10, l11, l12⟩ := hm
  have q0 : ∀ c j, QSh e c j → c = 53 + 2 * e ∧ j = 0 := fun c j q => q
  have g70 : gi μ' 70 = gi μ 70 := funext fun j => hs.2.1 70 j (by rw [t0]; decide) (fun q => (tp _ _ q).2.2.2.1 rfl)
  have g71 : gi μ' 71 = gi μ 71 := funext fun j => hs.2.1 71 j (by rw [t1]; decide) (fun q => (tp _ _ q).2.2.2.2.1 rfl)
  refine ⟨⟨hm0.sg hs (fun j q => by have := q0 _ _ q; omega), hc.sg hs (fun c j q => by have := q0 _ _ q; omega), hw, ht.sg hs (fun c j q => ⟨by have := (tp _ _ q).2.1; omega, (tp _ _ q).1⟩) (fun c j q => by have := q0 _ _ q; omega), by rw [g70]; exact hr⟩, ⟨hs18.sg hs (fun c j q => by have := q0 _ _ q; omega), hs33.sg hs (fun c j q => by have := q0 _ _ q; omega)⟩, ⟨i1, ?_, ?_, fun q => ?_⟩, fun e' he' => ?_, ⟨Nat.le_trans h84.1 hs.2.2.2.1.1, by rw [up1, if_neg (by omega)]; exact h84.2.sg hs⟩, hs.2.2.2.2.2⟩
  · rw [hs.2.1 2 3 (by rw [hc.1]; decide) (fun q => by have := (tp _ _ q).2.1; omega)]; exact i2
  · rw [hs.2.1 69 10 (by rw [m1]; decide) (fun q => (tp _ _ q).2.2.1 rfl)]; exact i3
  · obtain ⟨a, b, c⟩ := i4 q
    exact ⟨a, b.sg hs (fun c j q => ⟨by have := (tp _ _ q).2.1; omega, (tp _ _ q).1⟩) (fun c j q => by have := q0 _ _ q; omega), by rw [g71]; exact c⟩
  · by_cases q : e' = e
    · subst q
      rw [up1, if_pos rfl]
      exact ⟨hH, hC, hM⟩
    · rw [up1, if_neg q]
      obtain ⟨a, b, c⟩ := hsh e' he'
      exact ⟨a, b.sg he' hc hs (fun c j p => ⟨by unfold PSh at p; omega, by unfold PSh at p; omega, (tp _ _ p).1⟩) (fun c j p => by have := q0 _ _ p; omega), c.sg hm0 hs (fun c j p => by unfold PSh at p; omega)⟩
