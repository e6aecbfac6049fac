/-! SPECS ZZA: a town's text -/
def ltN (v : Int32) : Nat := if v = 98 then 1 else if v = 110 then 3 else if v = 111 then 2 else if v = 114 then 2 else if v = 120 then 2 else 0
theorem ltN_le (v : Int32) : ltN v ≤ 3 := by unfold ltN; split <;> first | omega | (split <;> first | omega | (split <;> first | omega | (split <;> first | omega | (split <;> omega))))
def ltr (v : Int32) : Int32 := if v = 98 then 1 else if v = 110 then 3 else if v = 111 then 2 else if v = 114 then 2 else if v = 120 then 2 else -1
theorem ltr_N (v : Int32) : ltr v = if ltN v = 0 then -1 else E (ltN v) := by
  unfold ltr ltN
  by_cases a : v = 98
  · simp only [a, if_true]; rfl
  by_cases b : v = 110
  · subst b; rfl
  by_cases c : v = 111
  · subst c; rfl
  by_cases d : v = 114
  · subst d; rfl
  by_cases e : v = 120
  · subst e; rfl
  · simp only [a, b, c, d, e, if_false, if_true]
theorem f119 {d : Nat} {v : Int32} {μ : SMem} : cl d 119 [Sum.inl (v)] μ = some (Sum.inl (some (Sum.inl (ltr v))), μ) := by
  show rn d 119 0 [some (Sum.inl (v))] [] μ = _
  unfold ltr
  by_cases a : v = 98
  · simp only [st119_0, st119_1, st119_2, st119_3, st119_4, st119_5, st119_6, st119_7, st119_8, st119_9, st119_10, st119_11, st119_12, st119_13, a, if_true]
  by_cases b : v = 110
  · simp only [st119_0, st119_1, st119_2, st119_3, st119_4, st119_5, st119_6, st119_7, st119_8, st119_9, st119_10, st119_11, st119_12, st119_13, a, b, if_true, if_false]
    simp only [show ((110 : Int32) = 98) = False from eq_false (by decide), if_false]
  by_cases c : v = 111
  · simp only [st119_0, st119_1, st119_2, st119_3, st119_4, st119_5, st119_6, st119_7, st119_8, st119_9, st119_10, st119_11, st119_12, st119_13, a, b, c, if_true, if_false]
    simp only [show ((111 : Int32) = 98) = False from eq_false (by decide), show ((111 : Int32) = 110) = False from eq_false (by decide), if_false]
  by_cases e : v = 114
  · simp only [st119_0, st119_1, st119_2, st119_3, st119_4, st119_5, st119_6, st119_7, st119_8, st119_9, st119_10, st119_11, st119_12, st119_13, a, b, c, e, if_true, if_false]
    simp only [show ((114 : Int32) = 98) = False from eq_false (by decide), show ((114 : Int32) = 110) = False from eq_false (by decide), show ((114 : Int32) = 111) = False from eq_false (by decide), if_false]
  by_cases f : v = 120
  · simp only [st119_0, st119_1, st119_2, st119_3, st119_4, st119_5, st119_6, st119_7, st119_8, st119_9, st119_10, st119_11, st119_12, st119_13, a, b, c, e, f, if_true, if_false]
    simp only [show ((120 : Int32) = 98) = False from eq_false (by decide), show ((120 : Int32) = 110) = False from eq_false (by decide), show ((120 : Int32) = 111) = False from eq_false (by decide), show ((120 : Int32) = 114) = False from eq_false (by decide), if_false]
  · simp only [st119_0, st119_1, st119_2, st119_3, st119_4, st119_5, st119_6, st119_7, st119_8, st119_9, st119_10, st119_11, st119_12, st119_13, a, b, c, e, f, if_true, if_false]
def dF (el : Nat → Int32) (n : Nat) : Nat → Nat → Option Nat
  | 0, _ => none
  | k + 1, i => if i < n ∧ 48 ≤ el i ∧ el i ≤ 57 then dF el n k (i + 1) else some i
theorem dF_s {el : Nat → Int32} {n : Nat} (k i : Nat) : dF el n (k + 1) i = if i < n ∧ 48 ≤ el i ∧ el i ≤ 57 then dF el n k (i + 1) else some i := rfl
theorem dF_n {el : Nat → Int32} {n : Nat} : ∀ k i, dF el n k i = none → ∀ s, s < k → i + s < n ∧ 48 ≤ el (i + s) ∧ el (i + s) ≤ 57 := by
  intro k
  induction k with
  | zero => intro i _ s hs; omega
  | succ k ih =>
    intro i h s hs
    rw [dF_s] at h
    by_cases c : i < n ∧ 48 ≤ el i ∧ el i ≤ 57
    · rw [if_pos c] at h
      cases s with
      | zero => exact c
      | succ s =>
        have := ih (i + 1) h s (by omega)
        rw [show i + 1 + s = i + (s + 1) by omega] at this
        exact this
    · rw [if_neg c] at h; cases h
theorem dF_p {el : Nat → Int32} {n p : Nat} : ∀ k i, i ≤ n → dF el n k i = some p → i ≤ p ∧ p ≤ n := by
  intro k
  induction k with
  | zero => intro i _ h; cases h
  | succ k ih =>
    intro i hi h
    rw [dF_s] at h
    by_cases c : i < n ∧ 48 ≤ el i ∧ el i ≤ 57
    · rw [if_pos c] at h
      have := ih (i + 1) (by omega) h
      omega
    · rw [if_neg c] at h; cases h; omega
def stF (el : Nat → Int32) (n i : Nat) : Nat ⊕ Nat := if i < n ∧ ltN (el i) ≠ 0 then (match dF el n (ltN (el i)) (i + 1) with | some p => Sum.inl p | none => if i + 1 + ltN (el i) < n ∧ el (i + 1 + ltN (el i)) = 59 then Sum.inr (i + 2 + ltN (el i)) else Sum.inl (i + 1 + ltN (el i))) else Sum.inl i
theorem stF_r {el : Nat → Int32} {n i j : Nat} (h : stF el n i = Sum.inr j) : i < n ∧ ltN (el i) ≠ 0 ∧ dF el n (ltN (el i)) (i + 1) = none ∧ i + 1 + ltN (el i) < n ∧ el (i + 1 + ltN (el i)) = 59 ∧ j = i + 2 + ltN (el i) := by
  unfold stF at h
  by_cases c : i < n ∧ ltN (el i) ≠ 0
  · rw [if_pos c] at h
    cases hd : dF el n (ltN (el i)) (i + 1) with
    | some p => rw [hd] at h; cases h
    | none =>
      rw [hd] at h
      have h' : (if i + 1 + ltN (el i) < n ∧ el (i + 1 + ltN (el i)) = 59 then (Sum.inr (i + 2 + ltN (el i)) : Nat ⊕ Nat) else Sum.inl (i + 1 + ltN (el i))) = Sum.inr j := h
      by_cases c2 : i + 1 + ltN (el i) < n ∧ el (i + 1 + ltN (el i)) = 59
      · rw [if_pos c2] at h'; cases h'; exact ⟨c.1, c.2, rfl, c2.1, c2.2, rfl⟩
      · rw [if_neg c2] at h'; cases h'
  · rw [if_neg c] at h; cases h
def ff (el : Nat → Int32) (n : Nat) : Nat → Nat → Option Nat × Nat
  | 0, _ => (none, 0)
  | m + 1, i => match stF el n i with | Sum.inl p => (some p, 0) | Sum.inr j => if n ≤ j then (none, 1) else ((ff el n m j).1, (ff el n m j).2 + 1)
theorem ff_l {el : Nat → Int32} {n m i p : Nat} (h : stF el n i = Sum.inl p) : ff el n (m + 1) i = (some p, 0) := by unfold ff; rw [h]
theorem ff_r {el : Nat → Int32} {n m i j : Nat} (h : stF el n i = Sum.inr j) : ff el n (m + 1) i = if n ≤ j then (none, 1) else ((ff el n m j).1, (ff el n m j).2 + 1) := by rw [ff, h]
/-! the class reads the form -/
theorem f120_d {d e : Nat} {H : HT} {μ : SMem} (he : e < 8) (hc : CAo μ) (hH : HWF H) (hC : ShC μ e H) (hk : hkt H = 2) : ∀ k i (u4 : Option SV), k ≤ 3 → i ≤ hsz H → (∀ p, dF (hel H) (hsz H) k i = some p → rn (d + 1) 120 6 [some (Sum.inr (Sum.inl (53 + 2 * e))), some (Sum.inl (1)), some (Sum.inl (E k)), some (Sum.inl (E i)), u4] [] μ = some (Sum.inl (some (Sum.inl (E p))), μ)) ∧ (dF (hel H) (hsz H) k i = none → ∃ u4', rn (d + 1) 120 6 [some (Sum.inr (Sum.inl (53 + 2 * e))), some (Sum.inl (1)), some (Sum.inl (E k)), some (Sum.inl (E i)), u4] [] μ = rn (d + 1) 120 6 [some (Sum.inr (Sum.inl (53 + 2 * e))), some (Sum.inl (1)), some (Sum.inl (E 0)), some (Sum.inl (E (i + k))), u4'] [] μ) := by
  have t8 := (hc.2.2.2.2.2.2.2.2.2.2.2 e he).2.1
  have x4 := (hC.2.1 hk).2.2.2
  have hn := hH.2.2.1
  intro k
  induction k with
  | zero => intro i u4 _ _; exact ⟨(fun p h => by cases h), fun _ => ⟨u4, rfl⟩⟩
  | succ k ih =>
    intro i u4 hk3 hi
    rw [dF_s]
    by_cases c1 : i < hsz H
    · have l1 : (E (hsz H) ≤ E i) = False := by rw [E_leE (by omega) (by omega)]; exact eq_false (by omega)
      have cc : (0 ≤ E i ∧ E i < E (hsz H)) = True := eq_true ((inr (by omega) (by omega)).mpr c1)
      have lk : (E (k + 1) ≤ 0) = False := by rw [show (0 : Int32) = E 0 from rfl, E_leE (by omega) (by omega)]; exact eq_false (by omega)
      by_cases c2 : 48 ≤ hel H i ∧ hel H i ≤ 57
      · have n48 : ¬ hel H i < 48 := Int32.not_lt.mpr c2.1
        obtain ⟨i1, i2⟩ := ih (i + 1) (some (Sum.inl (hel H i))) (by omega) (by omega)
        rw [if_pos ⟨c1, c2⟩]
        have e1 : rn (d + 1) 120 6 [some (Sum.inr (Sum.inl (53 + 2 * e))), some (Sum.inl (1)), some (Sum.inl (E (k + 1))), some (Sum.inl (E i)), u4] [] μ = rn (d + 1) 120 6 [some (Sum.inr (Sum.inl (53 + 2 * e))), some (Sum.inl (1)), some (Sum.inl (E k)), some (Sum.inl (E (i + 1))), some (Sum.inl (hel H i))] [] μ := by
          rw [st120_6]
          simp only [st120_7, st120_8, st120_9, st120_10, st120_11, st120_12, st120_13, st120_14, st120_15, st120_16, st120_17, st120_18, st120_19, st120_20, st120_21, st120_22, st120_23, st120_24, st120_25, st120_26, st120_27, st120_28, st120_29, st120_30, st120_31, st120_32, st120_33, st120_34, st120_35, st120_36, st120_37, st120_38, st120_39, st120_40, st120_41, st120_42, st120_43, st120_44, st120_45, st120_46, t8, x4, l1, f57 he hc hH hC hk, cc, E_n (show i < 1000 by omega), lk, n48, c2, E_p1, E_m1 (show 1 ≤ k + 1 by omega), Nat.add_sub_cancel, show E i + 1 = E (i + 1) from E_add i 1, aft_some, Option.toList_some, Option.toList_none, List.cons_append, List.nil_append, br0, br1, br2, br3, zr01, zr02, n10, n01, ne_eq, not_true_eq_false, not_false_eq_true, if_true, if_false, true_and, and_true, and_self]
        refine ⟨fun p h => by rw [e1]; exact i1 p h, fun h => ?_⟩
        obtain ⟨u', hu'⟩ := i2 h
        exact ⟨u', by rw [e1, hu', show i + 1 + k = i + (k + 1) by omega]⟩
      · rw [if_neg (fun h => c2 h.2)]
        refine ⟨fun p h => ?_, fun h => by cases h⟩
        cases h
        rw [st120_6]
        by_cases n48 : hel H i < 48
        · simp only [st120_7, st120_8, st120_9, st120_10, st120_11, st120_12, st120_13, st120_14, st120_15, st120_16, st120_17, st120_18, st120_19, st120_20, st120_21, st120_22, st120_23, st120_24, st120_25, st120_26, st120_27, st120_28, st120_29, st120_30, st120_31, st120_32, st120_33, st120_34, st120_35, st120_36, st120_37, st120_38, st120_39, st120_40, st120_41, st120_42, st120_43, st120_44, st120_45, st120_46, t8, x4, l1, f57 he hc hH hC hk, cc, E_n (show i < 1000 by omega), lk, n48, aft_some, Option.toList_some, Option.toList_none, List.cons_append, List.nil_append, br0, br1, br2, br3, zr01, zr02, n10, n01, ne_eq, not_true_eq_false, not_false_eq_true, if_true, if_false, true_and, and_true, and_self]
        · have n57 : ¬ hel H i ≤ 57 := fun h => c2 ⟨Int32.not_lt.mp n48, h⟩
          simp only [st120_7, st120_8, st120_9, st120_10, st120_11, st120_12, st120_13, st120_14, st120_15, st120_16, st120_17, st120_18, st120_19, st120_20, st120_21, st120_22, st120_23, st120_24, st120_25, st120_26, st120_27, st120_28, st120_29, st120_30, st120_31, st120_32, st120_33, st120_34, st120_35, st120_36, st120_37, st120_38, st120_39, st120_40, st120_41, st120_42, st120_43, st120_44, st120_45, st120_46, t8, x4, l1, f57 he hc hH hC hk, cc, E_n (show i < 1000 by omega), lk, n48, n57, aft_some, Option.toList_some, Option.toList_none, List.cons_append, List.nil_append, br0, br1, br2, br3, zr01, zr02, n10, n01, ne_eq, not_true_eq_false, not_false_eq_true, if_true, if_false, true_and, and_true, and_self]
    · have : i = hsz H := by omega
      rw [if_neg (fun h => c1 h.1)]
      refine ⟨fun p h => ?_, fun h => by cases h⟩
      cases h
      rw [st120_6]
      simp only [st120_7, st120_8, st120_9, st120_47, st120_48, st120_49, st120_50, st120_51, st120_52, st120_53, st120_54, st120_55, st120_56, t8, x4, this, Int32.le_refl, aft_some, Option.toList_some, Option.toList_none, List.cons_append, List.nil_append, br0, br1, br2, br3, zr01, zr02, n10, n01, ne_eq, not_true_eq_false, not_false_eq_true, if_true, if_false, true_and, and_true, and_self]
theorem f120_c {d e i : Nat} {H : HT} {u4 : Option SV} {μ : SMem} (he : e < 8) (hc : CAo μ) (hH : HWF H) (hC : ShC μ e H) (hk : hkt H = 2) (hi : i ≤ hsz H) : (i < hsz H ∧ hel H i = 59 → ∃ u4', rn (d + 1) 120 6 [some (Sum.inr (Sum.inl (53 + 2 * e))), some (Sum.inl (1)), some (Sum.inl (E 0)), some (Sum.inl (E i)), u4] [] μ = rn (d + 1) 120 6 [some (Sum.inr (Sum.inl (53 + 2 * e))), some (Sum.inl (0)), some (Sum.inl (E 0)), some (Sum.inl (E (i + 1))), u4'] [] μ) ∧ (¬ (i < hsz H ∧ hel H i = 59) → rn (d + 1) 120 6 [some (Sum.inr (Sum.inl (53 + 2 * e))), some (Sum.inl (1)), some (Sum.inl (E 0)), some (Sum.inl (E i)), u4] [] μ = some (Sum.inl (some (Sum.inl (E i))), μ)) := by
  have t8 := (hc.2.2.2.2.2.2.2.2.2.2.2 e he).2.1
  have x4 := (hC.2.1 hk).2.2.2
  have hn := hH.2.2.1
  by_cases c1 : i < hsz H
  · have l1 : (E (hsz H) ≤ E i) = False := by rw [E_leE (by omega) (by omega)]; exact eq_false (by omega)
    have cc : (0 ≤ E i ∧ E i < E (hsz H)) = True := eq_true ((inr (by omega) (by omega)).mpr c1)
    have lk : (E 0 ≤ (0 : Int32)) = True := eq_true (by decide)
    by_cases c2 : hel H i = 59
    · refine ⟨fun _ => ⟨some (Sum.inl 59), ?_⟩, fun h => absurd ⟨c1, c2⟩ h⟩
      rw [st120_6]
      simp only [st120_7, st120_8, st120_9, st120_10, st120_11, st120_12, st120_13, st120_14, st120_15, st120_16, st120_17, st120_18, st120_19, st120_20, st120_21, st120_22, st120_23, st120_24, st120_25, st120_26, st120_27, st120_28, st120_29, st120_30, st120_31, st120_32, st120_33, st120_34, st120_35, st120_36, st120_37, st120_38, st120_39, st120_40, st120_41, st120_42, st120_43, st120_44, st120_45, st120_46, t8, x4, l1, f57 he hc hH hC hk, cc, E_n (show i < 1000 by omega), lk, c2, show E i + 1 = E (i + 1) from E_add i 1, aft_some, Option.toList_some, Option.toList_none, List.cons_append, List.nil_append, br0, br1, br2, br3, zr01, zr02, n10, n01, ne_eq, not_true_eq_false, not_false_eq_true, if_true, if_false, true_and, and_true, and_self]
    · refine ⟨fun h => absurd h.2 c2, fun _ => ?_⟩
      rw [st120_6]
      simp only [st120_7, st120_8, st120_9, st120_10, st120_11, st120_12, st120_13, st120_14, st120_15, st120_16, st120_17, st120_18, st120_19, st120_20, st120_21, st120_22, st120_23, st120_24, st120_25, st120_26, st120_27, st120_28, st120_29, st120_30, st120_31, st120_32, st120_33, st120_34, st120_35, st120_36, st120_37, st120_38, st120_39, st120_40, st120_41, st120_42, st120_43, st120_44, st120_45, st120_46, t8, x4, l1, f57 he hc hH hC hk, cc, E_n (show i < 1000 by omega), lk, c2, aft_some, Option.toList_some, Option.toList_none, List.cons_append, List.nil_append, br0, br1, br2, br3, zr01, zr02, n10, n01, ne_eq, not_true_eq_false, not_false_eq_true, if_true, if_false, true_and, and_true, and_self]
  · have : i = hsz H := by omega
    refine ⟨fun h => absurd h.1 c1, fun _ => ?_⟩
    rw [st120_6]
    simp only [st120_7, st120_8, st120_9, st120_47, st120_48, st120_49, st120_50, st120_51, st120_52, st120_53, st120_54, st120_55, st120_56, t8, x4, this, Int32.le_refl, aft_some, Option.toList_some, Option.toList_none, List.cons_append, List.nil_append, br0, br1, br2, br3, zr01, zr02, n10, n01, ne_eq, not_true_eq_false, not_false_eq_true, if_true, if_false, true_and, and_true, and_self]
theorem f120_s {d e i : Nat} {x2 : Int32} {H : HT} {u4 : Option SV} {μ : SMem} (he : e < 8) (hc : CAo μ) (hH : HWF H) (hC : ShC μ e H) (hk : hkt H = 2) (hi : i < hsz H) : (∀ p, stF (hel H) (hsz H) i = Sum.inl p → rn (d + 1) 120 6 [some (Sum.inr (Sum.inl (53 + 2 * e))), some (Sum.inl (0)), some (Sum.inl (x2)), some (Sum.inl (E i)), u4] [] μ = some (Sum.inl (some (Sum.inl (E p))), μ)) ∧ (∀ j, stF (hel H) (hsz H) i = Sum.inr j → ∃ x2' u4', rn (d + 1) 120 6 [some (Sum.inr (Sum.inl (53 + 2 * e))), some (Sum.inl (0)), some (Sum.inl (x2)), some (Sum.inl (E i)), u4] [] μ = rn (d + 1) 120 6 [some (Sum.inr (Sum.inl (53 + 2 * e))), some (Sum.inl (0)), some (Sum.inl (x2')), some (Sum.inl (E j)), u4'] [] μ) := by
  have t8 := (hc.2.2.2.2.2.2.2.2.2.2.2 e he).2.1
  have x4 := (hC.2.1 hk).2.2.2
  have hn := hH.2.2.1
  have l1 : (E (hsz H) ≤ E i) = False := by rw [E_leE (by omega) (by omega)]; exact eq_false (by omega)
  have cc : (0 ≤ E i ∧ E i < E (hsz H)) = True := eq_true ((inr (by omega) (by omega)).mpr hi)
  have lN := ltN_le (hel H i)
  have er := ltr_N (hel H i)
  by_cases c : ltN (hel H i) = 0
  · have es : stF (hel H) (hsz H) i = Sum.inl i := by unfold stF; rw [if_neg (fun h => h.2 c)]
    rw [if_pos c] at er
    refine ⟨fun p h => ?_, fun j h => by rw [es] at h; cases h⟩
    rw [es] at h; cases h
    rw [st120_6]
    simp only [st120_7, st120_8, st120_9, st120_10, st120_11, st120_12, st120_13, st120_14, st120_15, st120_16, st120_17, st120_18, st120_19, st120_20, st120_21, st120_22, st120_23, st120_24, st120_25, t8, x4, l1, f57 he hc hH hC hk, cc, E_n (show i < 1000 by omega), f119, er, show ((0 : Int32) ≤ -1) = False from eq_false (by decide), aft_some, Option.toList_some, Option.toList_none, List.cons_append, List.nil_append, br0, br1, br2, br3, zr01, zr02, n10, n01, ne_eq, not_true_eq_false, not_false_eq_true, if_true, if_false, true_and, and_true, and_self]
  · rw [if_neg c] at er
    have e1 : rn (d + 1) 120 6 [some (Sum.inr (Sum.inl (53 + 2 * e))), some (Sum.inl (0)), some (Sum.inl (x2)), some (Sum.inl (E i)), u4] [] μ = rn (d + 1) 120 6 [some (Sum.inr (Sum.inl (53 + 2 * e))), some (Sum.inl (1)), some (Sum.inl (E (ltN (hel H i)))), some (Sum.inl (E (i + 1))), some (Sum.inl (hel H i))] [] μ := by
      rw [st120_6]
      simp only [st120_7, st120_8, st120_9, st120_10, st120_11, st120_12, st120_13, st120_14, st120_15, st120_16, st120_17, st120_18, st120_19, st120_20, st120_21, st120_22, st120_23, st120_24, st120_25, st120_45, st120_46, t8, x4, l1, f57 he hc hH hC hk, cc, E_n (show i < 1000 by omega), f119, er, E_ge0 (show ltN (hel H i) < 1000 by omega), show E i + 1 = E (i + 1) from E_add i 1, aft_some, Option.toList_some, Option.toList_none, List.cons_append, List.nil_append, br0, br1, br2, br3, zr01, zr02, n10, n01, ne_eq, not_true_eq_false, not_false_eq_true, if_true, if_false, true_and, and_true, and_self]
    obtain ⟨d1, d2⟩ := f120_d (d := d) he hc hH hC hk (ltN (hel H i)) (i + 1) (some (Sum.inl (hel H i))) lN (by omega)
    cases hd : dF (hel H) (hsz H) (ltN (hel H i)) (i + 1) with
    | some p =>
      have es : stF (hel H) (hsz H) i = Sum.inl p := by unfold stF; rw [if_pos ⟨hi, c⟩, hd]
      refine ⟨fun p' h => ?_, fun j h => by rw [es] at h; cases h⟩
      rw [es] at h; cases h
      rw [e1]; exact d1 p hd
    | none =>
      obtain ⟨u', hu'⟩ := d2 hd
      have hle : i + 1 + ltN (hel H i) ≤ hsz H := by
        have := (dF_n _ _ hd (ltN (hel H i) - 1) (by omega)).1
        omega
      obtain ⟨g1, g2⟩ := f120_c (d := d) (i := i + 1 + ltN (hel H i)) (u4 := u') he hc hH hC hk hle
      have es : stF (hel H) (hsz H) i = if i + 1 + ltN (hel H i) < hsz H ∧ hel H (i + 1 + ltN (hel H i)) = 59 then Sum.inr (i + 2 + ltN (hel H i)) else Sum.inl (i + 1 + ltN (hel H i)) := by unfold stF; rw [if_pos ⟨hi, c⟩, hd]
      by_cases c2 : i + 1 + ltN (hel H i) < hsz H ∧ hel H (i + 1 + ltN (hel H i)) = 59
      · rw [if_pos c2] at es
        obtain ⟨u2, hu2⟩ := g1 c2
        refine ⟨(fun p h => by rw [es] at h; cases h), fun j h => ?_⟩
        rw [es] at h; cases h
        exact ⟨E 0, u2, by rw [e1, hu', hu2, show i + 1 + ltN (hel H i) + 1 = i + 2 + ltN (hel H i) by omega]⟩
      · rw [if_neg c2] at es
        refine ⟨fun p h => ?_, fun j h => by rw [es] at h; cases h⟩
        rw [es] at h; cases h
        rw [e1, hu', g2 c2]
def ffR (r : Option Nat) : Int32 := match r with | some p => E p | none => -4
theorem f120_l {d e : Nat} {H : HT} {μ : SMem} (he : e < 8) (hc : CAo μ) (hH : HWF H) (hC : ShC μ e H) (hk : hkt H = 2) : ∀ m i (x2 : Int32) (u4 : Option SV), i < hsz H → hsz H < i + m → rn (d + 1) 120 6 [some (Sum.inr (Sum.inl (53 + 2 * e))), some (Sum.inl (0)), some (Sum.inl (x2)), some (Sum.inl (E i)), u4] [] μ = some (Sum.inl (some (Sum.inl (ffR (ff (hel H) (hsz H) m i).1))), μ) := by
  have t8 := (hc.2.2.2.2.2.2.2.2.2.2.2 e he).2.1
  have x4 := (hC.2.1 hk).2.2.2
  have hn := hH.2.2.1
  intro m
  induction m with
  | zero => intro i x2 u4 hi hm; omega
  | succ m ih =>
    intro i x2 u4 hi hm
    obtain ⟨s1, s2⟩ := f120_s (d := d) (x2 := x2) (u4 := u4) he hc hH hC hk hi
    cases hs : stF (hel H) (hsz H) i with
    | inl p => rw [ff_l hs]; exact s1 p hs
    | inr j =>
      obtain ⟨x2', u4', h1⟩ := s2 j hs
      obtain ⟨r1, r2, r3, r4, r5, r6⟩ := stF_r hs
      rw [ff_r hs, h1]
      by_cases c : hsz H ≤ j
      · have : j = hsz H := by omega
        rw [if_pos c, this, st120_6]
        have z0 := E_z (show hsz H < 1000 by omega)
        simp only [st120_7, st120_8, st120_9, st120_47, st120_48, st120_49, st120_50, st120_51, st120_52, st120_53, st120_54, st120_55, st120_56, t8, x4, Int32.le_refl, z0, show ¬ hsz H = 0 by omega, ffR, aft_some, Option.toList_some, Option.toList_none, List.cons_append, List.nil_append, br0, br1, br2, br3, zr01, zr02, n10, n01, ne_eq, not_true_eq_false, not_false_eq_true, if_true, if_false, true_and, and_true, and_self]
      · rw [if_neg c]
        exact ih j x2' u4' (by omega) (by omega)
theorem f120 {d e : Nat} {H : HT} {μ : SMem} (he : e < 8) (hc : CAo μ) (hH : HWF H) (hC : ShC μ e H) (hk : hkt H = 2) : cl (d + 1) 120 [Sum.inr (Sum.inl (53 + 2 * e))] μ = some (Sum.inl (some (Sum.inl (ffR (ff (hel H) (hsz H) (hsz H + 1) 0).1))), μ) := by
  have t8 := (hc.2.2.2.2.2.2.2.2.2.2.2 e he).2.1
  have x4 := (hC.2.1 hk).2.2.2
  show rn (d + 1) 120 0 [some (Sum.inr (Sum.inl (53 + 2 * e))), none, none, none, none] [] μ = _
  by_cases c : hsz H = 0
  · have es : stF (hel H) (hsz H) 0 = Sum.inl 0 := by unfold stF; rw [if_neg (by omega)]
    rw [ff_l es]
    rw [c] at x4
    simp only [st120_0, st120_1, st120_2, st120_3, st120_4, st120_5, st120_6, st120_7, st120_8, st120_9, st120_47, st120_48, st120_49, st120_50, st120_51, st120_52, st120_53, st120_54, st120_55, st120_56, t8, x4, show (E 0 ≤ (0 : Int32)) = True from eq_true (by decide), show (E 0 = (0 : Int32)) = True from eq_true rfl, ffR, aft_some, Option.toList_some, Option.toList_none, List.cons_append, List.nil_append, br0, br1, br2, br3, zr01, zr02, n10, n01, ne_eq, not_true_eq_false, not_false_eq_true, if_true, if_false, true_and, and_true, and_self]
  · simp only [st120_0, st120_1, st120_2, st120_3, st120_4, st120_5]
    exact f120_l he hc hH hC hk (hsz H + 1) 0 0 none (by omega) (by omega)
/-! SPECS ZZB: town -/
def dgv (el : Nat → Int32) (i s : Nat) : Nat := (el (i + 1 + s) - 48).toNatClampNeg % 10
def stA (A : AT) (el : Nat → Int32) (i : Nat) : Option AT := stD A (el i).toNatClampNeg (dgv el i 0) (dgv el i 1) (dgv el i 2)
def rS (el : Nat → Int32) (n : Nat) : Nat → Nat → AT → Option Nat × AT
  | 0, _, A => (none, A)
  | m + 1, i, A => if n ≤ i then (none, A) else match stA A el i with | none => (some i, A) | some A' => rS el n m (i + 2 + ltN (el i)) A'
theorem rS_e {el : Nat → Int32} {n m i : Nat} {A : AT} (h : n ≤ i) : rS el n m i A = (none, A) := by
  cases m with
  | zero => rfl
  | succ m => rw [rS, if_pos h]
theorem rS_n {el : Nat → Int32} {n m i : Nat} {A : AT} (h : ¬ n ≤ i) (hs : stA A el i = none) : rS el n (m + 1) i A = (some i, A) := by rw [rS, if_neg h, hs]
theorem rS_s {el : Nat → Int32} {n m i : Nat} {A A' : AT} (h : ¬ n ≤ i) (hs : stA A el i = some A') : rS el n (m + 1) i A = rS el n m (i + 2 + ltN (el i)) A' := by rw [rS, if_neg h, hs]
theorem dig_E {el : Nat → Int32} {i s : Nat} (h : 48 ≤ el (i + 1 + s) ∧ el (i + 1 + s) ≤ 57) : el (i + 1 + s) = E (48 + dgv el i s) := by
  have h1 := Int32.le_iff_toInt_le.mp h.1
  have h2 := Int32.le_iff_toInt_le.mp h.2
  have e1 : (48 : Int32).toInt = 48 := rfl
  have e2 : (57 : Int32).toInt = 57 := rfl
  have e0 : (0 : Int32).toInt = 0 := rfl
  have e58 : (E 58).toInt = 58 := rfl
  unfold dgv
  obtain ⟨k, hk, ek⟩ := E_of (x := el (i + 1 + s)) (n := 58) (Int32.le_iff_toInt_le.mpr (by omega)) (Int32.lt_iff_toInt_lt.mpr (by omega)) (by decide)
  rw [ek, E_toInt (by omega)] at h1
  rw [ek, show (48 : Int32) = E 48 from rfl, E_sub (by omega), E_nn (by omega)]
  congr 1
  omega
theorem ltN_c {v : Int32} (h : ltN v ≠ 0) : ∃ c, v = E c ∧ v.toNatClampNeg = c ∧ (c = 98 ∨ c = 110 ∨ c = 111 ∨ c = 114 ∨ c = 120) ∧ (c ≠ 98 → 2 ≤ ltN v) ∧ (c = 110 → ltN v = 3) := by
  by_cases a : v = 98
  · subst a; exact ⟨98, rfl, rfl, by omega, fun h => absurd rfl h, fun h => by omega⟩
  by_cases b : v = 110
  · subst b; exact ⟨110, rfl, rfl, by omega, fun _ => by decide, fun _ => rfl⟩
  by_cases c : v = 111
  · subst c; exact ⟨111, rfl, rfl, by omega, fun _ => by decide, fun h => by omega⟩
  by_cases d : v = 114
  · subst d; exact ⟨114, rfl, rfl, by omega, fun _ => by decide, fun h => by omega⟩
  by_cases e : v = 120
  · subst e; exact ⟨120, rfl, rfl, by omega, fun _ => by decide, fun h => by omega⟩
  · unfold ltN at h
    simp only [a, b, c, d, e, if_false] at h
    exact absurd rfl h
theorem dg0 {v : Int32} (h : 48 ≤ v ∧ v ≤ 57) : ltN v = 0 := by
  have h1 := Int32.le_iff_toInt_le.mp h.1
  have h2 := Int32.le_iff_toInt_le.mp h.2
  have e1 : (48 : Int32).toInt = 48 := rfl
  have e2 : (57 : Int32).toInt = 57 := rfl
  have ne : ∀ n : Nat, 57 < n → n < 1000 → ¬ v = E n := fun n hn hn2 e => by rw [e, E_toInt (by omega)] at h2; omega
  have a : ¬ v = 98 := ne 98 (by decide) (by decide)
  have b : ¬ v = 110 := ne 110 (by decide) (by decide)
  have c : ¬ v = 111 := ne 111 (by decide) (by decide)
  have d : ¬ v = 114 := ne 114 (by decide) (by decide)
  have e : ¬ v = 120 := ne 120 (by decide) (by decide)
  unfold ltN
  simp only [a, b, c, d, e, if_false]
theorem f78_sk {d e : Nat} {x1 x3 x4' : Int32} {cnt : Nat} {H : HT} {μ : SMem} (he : e < 8) (hc : CAo μ) (hH : HWF H) (hC : ShC μ e H) (hk : hkt H = 2) : ∀ k i, (∀ s, s < k → i + s < hsz H ∧ ltN (hel H (i + s)) = 0) → rn (d + 1) 78 32 [some (Sum.inr (Sum.inl (2))), some (Sum.inl (x1)), some (Sum.inr (Sum.inl (53 + 2 * e))), some (Sum.inl (x3)), some (Sum.inl (x4')), some (Sum.inl (E cnt)), some (Sum.inl (E i))] [] μ = rn (d + 1) 78 32 [some (Sum.inr (Sum.inl (2))), some (Sum.inl (x1)), some (Sum.inr (Sum.inl (53 + 2 * e))), some (Sum.inl (x3)), some (Sum.inl (x4')), some (Sum.inl (E cnt)), some (Sum.inl (E (i + k)))] [] μ := by
  have t8 := (hc.2.2.2.2.2.2.2.2.2.2.2 e he).2.1
  have x4 := (hC.2.1 hk).2.2.2
  have hn := hH.2.2.1
  intro k
  induction k with
  | zero => intro i _; rfl
  | succ k ih =>
    intro i h
    obtain ⟨h1, h2⟩ := h 0 (by omega)
    rw [Nat.add_zero] at h1 h2
    have l1 : (E (hsz H) ≤ E i) = False := by rw [E_leE (by omega) (by omega)]; exact eq_false (by omega)
    have cc : (0 ≤ E i ∧ E i < E (hsz H)) = True := eq_true ((inr (by omega) (by omega)).mpr h1)
    have er : ltr (hel H i) = -1 := by rw [ltr_N, if_pos h2]
    rw [st78_32]
    simp only [st78_33, st78_34, st78_35, st78_36, st78_37, st78_38, st78_39, st78_40, st78_52, st78_53, t8, x4, l1, f57 he hc hH hC hk, cc, E_n (show i < 1000 by omega), f119, er, show ((-1 : Int32) ≤ 0) = True from eq_true (by decide), show E i + 1 = E (i + 1) from E_add i 1, aft_some, Option.toList_some, Option.toList_none, List.cons_append, List.nil_append, br0, br1, br2, br3, zr01, zr02, n10, n01, ne_eq, not_true_eq_false, not_false_eq_true, if_true, if_false, true_and, and_true, and_self]
    rw [ih (i + 1) (fun s hs => by have := h (s + 1) (by omega); rw [show i + 1 + s = i + (s + 1) by omega]; exact this), show i + 1 + k = i + (k + 1) by omega]
def cnF (el : Nat → Int32) (n m i : Nat) : Nat := if n ≤ i then 0 else (ff el n m i).2
theorem f78_lp {d e : Nat} {x1 x3 x4' : Int32} {H : HT} (he : e < 8) (hH : HWF H) (hk : hkt H = 2) : ∀ m i cnt (A : AT) (μ : SMem), i ≤ hsz H → hsz H < i + m → (hsz H ≤ i ∨ (ff (hel H) (hsz H) m i).1 = none) → CAo μ → ShC μ e H → WF A → TwC μ 18 A → 2 ≤ sz μ → (∀ c, sz μ ≤ c → tg μ c = 99) → ∃ μ', rn (d + 7) 78 32 [some (Sum.inr (Sum.inl (2))), some (Sum.inl (x1)), some (Sum.inr (Sum.inl (53 + 2 * e))), some (Sum.inl (x3)), some (Sum.inl (x4')), some (Sum.inl (E cnt)), some (Sum.inl (E i))] [] μ = (match (rS (hel H) (hsz H) m i A).1 with | some p => some (Sum.inl (some (Sum.inl (-2000 - E p))), μ') | none => rn (d + 7) 78 54 [some (Sum.inr (Sum.inl (2))), some (Sum.inl (x1)), some (Sum.inr (Sum.inl (53 + 2 * e))), some (Sum.inl (x3)), some (Sum.inl (x4')), some (Sum.inl (E (cnt + cnF (hel H) (hsz H) m i))), some (Sum.inl (E (hsz H)))] [] μ') ∧ SG (fun c j => 18 ≤ c ∧ c ≤ 32) (fun c j => c = 20) μ μ' ∧ (sz μ' ≤ sz μ + m ∧ sl μ' ≤ sl μ + m) ∧ ((rS (hel H) (hsz H) m i A).1 = none → TwC μ' 18 (rS (hel H) (hsz H) m i A).2 ∧ WF (rS (hel H) (hsz H) m i A).2) ∧ TwS μ' 18 := by
  have hn := hH.2.2.1
  intro m
  induction m with
  | zero => intro i cnt A μ hi hm; omega
  | succ m ih =>
    intro i cnt A μ hi hm hok hc hC hw ht h2 hu
    have t8 := (hc.2.2.2.2.2.2.2.2.2.2.2 e he).2.1
    have x4 := (hC.2.1 hk).2.2.2
    by_cases c1 : hsz H ≤ i
    · have : i = hsz H := by omega
      rw [rS_e c1]
      refine ⟨μ, ?_, SG.rf hu, ⟨by omega, by omega⟩, fun _ => ⟨ht, hw⟩, ht.1⟩
      unfold cnF
      rw [if_pos c1, this, st78_32]
      simp only [st78_33, st78_34, st78_35, t8, x4, Int32.le_refl, Nat.add_zero, aft_some, Option.toList_some, Option.toList_none, List.cons_append, List.nil_append, br0, br1, br2, br3, zr01, zr02, n10, n01, ne_eq, not_true_eq_false, not_false_eq_true, if_true, if_false, true_and, and_true, and_self]
    · have hok' : (ff (hel H) (hsz H) (m + 1) i).1 = none := hok.resolve_left c1
      cases hs : stF (hel H) (hsz H) i with
      | inl p => rw [ff_l hs] at hok'; cases hok'
      | inr j =>
        obtain ⟨r1, r2, r3, r4, r5, r6⟩ := stF_r hs
        rw [ff_r hs] at hok'
        obtain ⟨c, ec, ec2, hcc, hl2, hl3⟩ := ltN_c r2
        have hdg := dF_n _ _ r3
        have lN := ltN_le (hel H i)
        have ex := dig_E (el := hel H) (i := i) (s := 0) (hdg 0 (by omega)).2
        have ey : c ≠ 98 → hel H (i + 2) = E (48 + dgv (hel H) i 1) := fun h => dig_E (el := hel H) (i := i) (s := 1) (hdg 1 (by have := hl2 h; omega)).2
        have ez : c = 110 → i + 3 < hsz H ∧ hel H (i + 3) = E (48 + dgv (hel H) i 2) := fun h => by
          have := hdg 2 (by have := hl3 h; omega)
          exact ⟨by omega, dig_E (el := hel H) (i := i) (s := 2) this.2⟩
        have dlt : ∀ s, dgv (hel H) i s < 10 := fun s => Nat.mod_lt _ (by decide)
        obtain ⟨μ1, a1, a2, ⟨a3, a3'⟩, a4, a5⟩ := f69 (d := d) (T := 18) (A := A) (by decide) he hc hH hC hk hw ht h2 hu (show i + 2 < hsz H by omega) (dlt 0) (dlt 1) (dlt 2) ec ex ey ez hcc
        have l1 : (E (hsz H) ≤ E i) = False := by rw [E_leE (by omega) (by omega)]; exact eq_false (by omega)
        have cc : (0 ≤ E i ∧ E i < E (hsz H)) = True := eq_true ((inr (by omega) (by omega)).mpr r1)
        have er : ltr (hel H i) = E (ltN (hel H i)) := by rw [ltr_N, if_neg r2]
        have lp : (E (ltN (hel H i)) ≤ (0 : Int32)) = False := by rw [show (0 : Int32) = E 0 from rfl, E_leE (by omega) (by omega)]; exact eq_false (by omega)
        have es : stA A (hel H) i = stD A c (dgv (hel H) i 0) (dgv (hel H) i 1) (dgv (hel H) i 2) := by unfold stA; rw [ec2]
        cases hst : stD A c (dgv (hel H) i 0) (dgv (hel H) i 1) (dgv (hel H) i 2) with
        | none =>
          rw [hst] at es a1
          rw [rS_n c1 es]
          refine ⟨μ1, ?_, a2, ⟨by omega, by omega⟩, (fun h => by cases h), a5⟩
          rw [st78_32]
          simp only [st78_33, st78_34, st78_35, st78_36, st78_37, st78_38, st78_39, st78_40, st78_41, st78_42, st78_43, st78_44, st78_45, st78_46, st78_47, st78_48, st78_49, st78_50, t8, x4, l1, f57 he hc hH hC hk, cc, E_n (show i < 1000 by omega), f119, er, lp, hc.1, hc.2.2.1, ht.1.1, a1, Option.isSome_none, show (false = true) = False from eq_false (by decide), aft_some, Option.toList_some, Option.toList_none, List.cons_append, List.nil_append, br0, br1, br2, br3, zr01, zr02, n10, n01, ne_eq, not_true_eq_false, not_false_eq_true, if_true, if_false, true_and, and_true, and_self]
        | some A' =>
          rw [hst] at es a1
          have ht1 := a4 A' hst
          have hw1 := stD_wf hw (dlt 1) hst
          have hu1 := a2.2.2.2.2.2
          have hc1 := hc.sg a2 (fun c j q => by omega)
          have hC1 := hC.sg he hc a2 (fun c j p => ⟨by omega, by omega, (ht.1.tag (by omega) (by omega)).1⟩) (fun c j p => by omega)
          rw [rS_s c1 es]
          have hj : hsz H ≤ j ∨ (ff (hel H) (hsz H) m j).1 = none := by
            by_cases c3 : hsz H ≤ j
            · exact Or.inl c3
            · rw [if_neg c3] at hok'; exact Or.inr hok'
          obtain ⟨μ2, b1, b2, ⟨b3, b3'⟩, b4, b5⟩ := ih j (cnt + 1) A' μ1 (by omega) (by omega) hj hc1 hC1 hw1 ht1 (by have := a2.2.2.2.1.1; omega) hu1
          rw [r6] at b1 b4
          refine ⟨μ2, ?_, a2.tr b2, ⟨by omega, by omega⟩, b4, b5⟩
          have sk := f78_sk (d := d + 6) (x1 := x1) (x3 := x3) (x4' := x4') (cnt := cnt + 1) he hc1 hH hC1 hk (ltN (hel H i) + 1) (i + 1) (fun s hs9 => by
            by_cases q : s = ltN (hel H i)
            · rw [q, r5]; exact ⟨r4, by decide⟩
            · have := hdg s (by omega)
              exact ⟨this.1, dg0 this.2⟩)
          rw [show i + 1 + (ltN (hel H i) + 1) = i + 2 + ltN (hel H i) by omega] at sk
          have ecn : cnt + cnF (hel H) (hsz H) (m + 1) i = cnt + 1 + cnF (hel H) (hsz H) m (i + 2 + ltN (hel H i)) := by
            unfold cnF
            rw [if_neg c1, ff_r hs, r6]
            by_cases c3 : hsz H ≤ i + 2 + ltN (hel H i)
            · rw [if_pos c3, if_pos c3]; rfl
            · rw [if_neg c3, if_neg c3]
              show cnt + (_ + 1) = _
              omega
          rw [ecn]
          refine Eq.trans ?_ b1
          rw [← sk, st78_32]
          simp only [st78_33, st78_34, st78_35, st78_36, st78_37, st78_38, st78_39, st78_40, st78_41, st78_42, st78_43, st78_44, st78_45, st78_46, st78_47, st78_48, st78_49, st78_50, st78_51, st78_52, st78_53, t8, x4, l1, f57 he hc hH hC hk, cc, E_n (show i < 1000 by omega), f119, er, lp, hc.1, hc.2.2.1, ht.1.1, a1, Option.isSome_some, show E cnt + 1 = E (cnt + 1) from E_add cnt 1, show E i + 1 = E (i + 1) from E_add i 1, aft_some, Option.toList_some, Option.toList_none, List.cons_append, List.nil_append, br0, br1, br2, br3, zr01, zr02, n10, n01, ne_eq, not_true_eq_false, not_false_eq_true, if_true, if_false, true_and, and_true, and_self]
/-! the reference reads the form -/
def PS (e n : Nat) (μ0 μ : SMem) (i : Nat) : Prop := SB (fun c => c = 69 ∨ c = 80) μ0 μ ∧ gi μ 69 12 = E i ∧ gi μ 69 13 = E (100 * e) ∧ gi μ 69 14 = E n ∧ ∀ j, j ≠ 12 → gi μ 69 j = gi μ0 69 j
theorem PS.at {e n i : Nat} {μ0 μ : SMem} (h : PS e n μ0 μ i) (k : Nat) : PS e n μ0 (seti μ 69 12 (E k)) k := by
  obtain ⟨a1, a2, a3, a4, a5⟩ := h
  exact ⟨a1.tr (SB.se (Or.inl rfl)), by rw [gi_seti, if_pos ⟨rfl, rfl⟩], by rw [gi_seti, if_neg (by omega)]; exact a3, by rw [gi_seti, if_neg (by omega)]; exact a4, fun j hj => by rw [gi_seti, if_neg (fun e => hj e.2)]; exact a5 j hj⟩
theorem f163 {d e i : Nat} {H : HT} {μ0 μ : SMem} (he : e < 8) (hm : MA μ0) (hH : HWF H) (hM : ShM μ0 e H) (h : PS e (hsz H) μ0 μ i) (hi : i ≤ hsz H) : cl d 163 [Sum.inr (Sum.inl (69))] μ = some (Sum.inl (some (Sum.inl (if i < hsz H then hel H i else -1000))), μ) := by
  obtain ⟨a1, a2, a3, a4, a5⟩ := h
  have hn := hH.2.2.1
  have hm1 := hm.sb a1
  have hM1 := hM.sb a1 (fun c e => by omega)
  obtain ⟨m1, m2, m3, m4, m5, m6, m7, m8, m9, m10, m11, m12, m13, m14, ⟨t0, t1, t2, t3, t4, t5, t6, t7, t8, t9, t10, t11, t12⟩, l0, l1, l2, l3, l4, l5, l6, l7, l8, l9, l10, l11, l12⟩ := hm1
  have l1 : (E (hsz H) ≤ E i) = (hsz H ≤ i) := E_leE (by omega) (by omega)
  show rn d 163 0 [some (Sum.inr (Sum.inl (69)))] [] μ = _
  by_cases c : i < hsz H
  · simp only [st163_0, st163_1, st163_2, st163_3, st163_4, st163_5, st163_6, st163_7, st163_8, st163_9, st163_10, st163_11, st163_12, st163_13, st163_14, st163_15, m1, a2, a4, l1, show ¬ hsz H ≤ i by omega, c, m9, t7, l7, a3, E_add, E_ge0 (show 100 * e + i < 1000 by omega), E_n (show 100 * e + i < 1000 by omega), show 100 * e + i < 800 by omega, hM1.2.2.2 i (by omega), aft_some, Option.toList_some, Option.toList_none, List.cons_append, List.nil_append, br0, br1, br2, br3, zr01, zr02, n10, n01, ne_eq, not_true_eq_false, not_false_eq_true, if_true, if_false, true_and, and_true, and_self]
  · simp only [st163_0, st163_1, st163_2, st163_3, st163_4, st163_5, st163_6, st163_7, st163_8, st163_9, st163_10, st163_11, st163_12, st163_13, st163_14, st163_15, m1, a2, a4, l1, show hsz H ≤ i by omega, c, aft_some, Option.toList_some, Option.toList_none, List.cons_append, List.nil_append, br0, br1, br2, br3, zr01, zr02, n10, n01, ne_eq, not_true_eq_false, not_false_eq_true, if_true, if_false, true_and, and_true, and_self]
theorem l48 (x : Int32) : ((48 : Int64) ≤ x.toInt64) = (48 ≤ x) := l_le 48 x
theorem l57 (x : Int32) : (x.toInt64 ≤ (57 : Int64)) = (x ≤ 57) := l_le x 57
theorem f164_lp {d e k : Nat} {H : HT} {μ0 : SMem} (he : e < 8) (hm : MA μ0) (hH : HWF H) (hM : ShM μ0 e H) (hk : k ≤ 3) : ∀ r q i (μ : SMem), q + r = k → i ≤ hsz H → PS e (hsz H) μ0 μ i → ∃ μ', (rn (d + 1) 164 2 [some (Sum.inr (Sum.inl (69))), some (Sum.inl (E k)), some (Sum.inl (E q))] [] μ = match dF (hel H) (hsz H) r i with | some _ => some (Sum.inl (some (Sum.inl (0))), μ') | none => some (Sum.inl (some (Sum.inl (1))), μ')) ∧ (∀ p, dF (hel H) (hsz H) r i = some p → PS e (hsz H) μ0 μ' p) ∧ (dF (hel H) (hsz H) r i = none → PS e (hsz H) μ0 μ' (i + r) ∧ (∀ s, s < q → gi μ' 80 s = gi μ 80 s) ∧ ∀ s, s < r → gi μ' 80 (q + s) = hel H (i + s) - 48) := by
  have hn := hH.2.2.1
  intro r
  induction r with
  | zero =>
    intro q i μ hq hi hP
    have : q = k := by omega
    subst this
    refine ⟨μ, ?_, (fun p h => by cases h), fun _ => ⟨hP, fun _ _ => rfl, fun s hs => by omega⟩⟩
    rw [st164_2]
    simp only [st164_3, st164_4, st164_30, st164_31, Int32.le_refl, or_true, dF, aft_some, Option.toList_some, Option.toList_none, List.cons_append, List.nil_append, br0, br1, br2, br3, zr01, zr02, n10, n01, ne_eq, not_true_eq_false, not_false_eq_true, if_true, if_false, true_and, and_true, and_self]
  | succ r ih =>
    intro q i μ hq hi hP
    have lq : (E k ≤ E q) = False := by rw [E_leE (by omega) (by omega)]; exact eq_false (by omega)
    have e163 := fun d => f163 (d := d) he hm hH hM hP hi
    have hm1 := (hm.sb hP.1).1
    rw [dF_s]
    by_cases c : i < hsz H ∧ 48 ≤ hel H i ∧ hel H i ≤ 57
    · rw [if_pos c]
      have hP2 : PS e (hsz H) μ0 (seti (seti μ 80 q (hel H i - 48)) 69 12 (E (i + 1))) (i + 1) := by
        obtain ⟨a1, a2, a3, a4, a5⟩ := hP
        have hP1 : PS e (hsz H) μ0 (seti μ 80 q (hel H i - 48)) i := ⟨a1.tr (SB.se (Or.inr rfl)), by rw [gi_seti, if_neg (by omega)]; exact a2, by rw [gi_seti, if_neg (by omega)]; exact a3, by rw [gi_seti, if_neg (by omega)]; exact a4, fun j hj => by rw [gi_seti, if_neg (by omega)]; exact a5 j hj⟩
        exact hP1.at (i + 1)
      obtain ⟨μ', y1, y2, y3⟩ := ih (q + 1) (i + 1) _ (by omega) (by omega) hP2
      refine ⟨μ', ?_, y2, fun h => ?_⟩
      · rw [if_pos c.1] at e163
        have hm9 := hm.sb hP.1
        have a2 := hP.2.1
        obtain ⟨m1, m2, m3, m4, m5, m6, m7, m8, m9, m10, m11, m12, m13, m14, ⟨t0, t1, t2, t3, t4, t5, t6, t7, t8, t9, t10, t11, t12⟩, l0, l1, l2, l3, l4, l5, l6, l7, l8, l9, l10, l11, l12⟩ := hm9
        rw [← y1, st164_2]
        simp only [st164_3, st164_4, st164_5, st164_6, st164_7, st164_8, st164_9, st164_10, st164_11, st164_12, st164_13, st164_14, st164_15, st164_16, st164_17, st164_18, st164_19, st164_20, st164_21, st164_22, st164_23, st164_24, st164_25, st164_26, st164_27, st164_28, st164_29, lq, m1, e163, f139, l48, l57, c, m12, t10, l10, E_ge0 (show q < 1000 by omega), E_n (show q < 1000 by omega), show q < 3 by omega, gi_seti, gi_setr, gi_setl, gi_setrow, gr_seti, gr_setr, gr_setl, gr_setrow, gl_seti, gl_setr, gl_setl, gl_setrow, tg_seti, tg_setr, tg_setl, tg_setrow, ln_seti, ln_setr, ln_setl, ln_setrow, sz_seti, sz_setr, sz_setl, sz_setrow, sl_seti, sl_setr, sl_setl, sl_setrow, show ((69 : Nat) = 80) = False from eq_false (by decide), false_and, a2, show E i + 1 = E (i + 1) from E_add i 1, show E q + 1 = E (q + 1) from E_add q 1, aft_some, Option.toList_some, Option.toList_none, List.cons_append, List.nil_append, br0, br1, br2, br3, zr01, zr02, n10, n01, ne_eq, not_true_eq_false, not_false_eq_true, if_true, if_false, true_and, and_true, and_self]
      · obtain ⟨b1, b2, b3⟩ := y3 h
        have g80 : ∀ s, gi (seti (seti μ 80 q (hel H i - 48)) 69 12 (E (i + 1))) 80 s = if s = q then hel H i - 48 else gi μ 80 s := fun s => by
          rw [gi_seti, if_neg (by omega), gi_seti]
          by_cases e : s = q
          · rw [if_pos ⟨rfl, e⟩, if_pos e]
          · rw [if_neg (fun h => e h.2), if_neg e]
        refine ⟨by rw [show i + (r + 1) = i + 1 + r by omega]; exact b1, fun s hs => by rw [b2 s (by omega), g80, if_neg (by omega)], fun s hs => ?_⟩
        cases s with
        | zero => rw [Nat.add_zero, Nat.add_zero, b2 q (by omega), g80, if_pos rfl]
        | succ s => rw [show q + (s + 1) = q + 1 + s by omega, b3 s (by omega), show i + 1 + s = i + (s + 1) by omega]
    · rw [if_neg c]
      refine ⟨μ, ?_, (fun p h => by cases h; exact hP), (fun h => by cases h)⟩
      rw [st164_2]
      by_cases c1 : i < hsz H
      · have c2 : ¬ (48 ≤ hel H i ∧ hel H i ≤ 57) := fun h => c ⟨c1, h⟩
        simp only [st164_3, st164_4, st164_5, st164_6, st164_7, st164_8, st164_9, st164_10, st164_11, st164_12, st164_13, lq, hm1, e163, c1, f139, l48, l57, c2, true_or, aft_some, Option.toList_some, Option.toList_none, List.cons_append, List.nil_append, br0, br1, br2, br3, zr01, zr02, n10, n01, ne_eq, not_true_eq_false, not_false_eq_true, if_true, if_false, true_and, and_true, and_self]
      · simp only [st164_3, st164_4, st164_5, st164_6, st164_7, st164_8, st164_9, st164_10, st164_11, st164_12, st164_13, lq, hm1, e163, c1, f139, l48, l57, show ((48 : Int32) ≤ -1000 ∧ (-1000 : Int32) ≤ 57) = False from eq_false (by decide), true_or, aft_some, Option.toList_some, Option.toList_none, List.cons_append, List.nil_append, br0, br1, br2, br3, zr01, zr02, n10, n01, ne_eq, not_true_eq_false, not_false_eq_true, if_true, if_false, true_and, and_true, and_self]
theorem f164 {d e k i : Nat} {H : HT} {μ0 μ : SMem} (he : e < 8) (hm : MA μ0) (hH : HWF H) (hM : ShM μ0 e H) (hk : k ≤ 3) (hi : i ≤ hsz H) (hP : PS e (hsz H) μ0 μ i) : ∃ μ', (cl (d + 1) 164 [Sum.inr (Sum.inl (69)), Sum.inl (E k)] μ = match dF (hel H) (hsz H) k i with | some _ => some (Sum.inl (some (Sum.inl (0))), μ') | none => some (Sum.inl (some (Sum.inl (1))), μ')) ∧ (∀ p, dF (hel H) (hsz H) k i = some p → PS e (hsz H) μ0 μ' p) ∧ (dF (hel H) (hsz H) k i = none → PS e (hsz H) μ0 μ' (i + k) ∧ ∀ s, s < k → gi μ' 80 s = hel H (i + s) - 48) := by
  obtain ⟨μ', y1, y2, y3⟩ := f164_lp (d := d) he hm hH hM hk k 0 i μ (by omega) hi hP
  refine ⟨μ', ?_, y2, fun h => ⟨(y3 h).1, fun s hs => by have := (y3 h).2.2 s hs; rw [Nat.zero_add] at this; exact this⟩⟩
  show rn (d + 1) 164 0 [some (Sum.inr (Sum.inl (69))), some (Sum.inl (E k)), none] [] μ = _
  simp only [st164_0, st164_1]
  exact y1
theorem f165 {d e i : Nat} {H : HT} {μ0 μ : SMem} (he : e < 8) (hm : MA μ0) (hH : HWF H) (hM : ShM μ0 e H) (hi : i ≤ hsz H) (hP : PS e (hsz H) μ0 μ i) : ∃ μ', (cl (d + 2) 165 [Sum.inr (Sum.inl (69))] μ = match stF (hel H) (hsz H) i with | Sum.inl _ => some (Sum.inl (some (Sum.inl (0))), μ') | Sum.inr _ => some (Sum.inl (some (Sum.inl (1))), μ')) ∧ (∀ p, stF (hel H) (hsz H) i = Sum.inl p → PS e (hsz H) μ0 μ' p) ∧ (∀ j, stF (hel H) (hsz H) i = Sum.inr j → PS e (hsz H) μ0 μ' j ∧ ∀ s, s < ltN (hel H i) → gi μ' 80 s = hel H (i + 1 + s) - 48) := by
  have hn := hH.2.2.1
  have e163 := fun d => f163 (d := d) he hm hH hM hP hi
  have hm1 := (hm.sb hP.1).1
  have a2 := hP.2.1
  by_cases c : i < hsz H ∧ ltN (hel H i) ≠ 0
  · have c1 := c.1
    simp only [c1, if_true] at e163
    have lN := ltN_le (hel H i)
    have hP1 := hP.at (i + 1)
    obtain ⟨μ1, b1, b2, b3⟩ := f164 (d := d) (k := ltN (hel H i)) he hm hH hM lN (show i + 1 ≤ hsz H by omega) hP1
    have hd8 : rn (d + 2) 165 0 [some (Sum.inr (Sum.inl (69))), none, none] [] μ = rn (d + 2) 165 38 [some (Sum.inr (Sum.inl (69))), some (Sum.inl (hel H i)), some (Sum.inl (E (ltN (hel H i))))] [Sum.inl (E (ltN (hel H i))), Sum.inr (Sum.inl (69))] (seti μ 69 12 (E (i + 1))) := by
      have hne := c.2
      simp only [st165_0, st165_1, st165_2, hm1, e163, aft_some, Option.toList_some, Option.toList_none, List.cons_append, List.nil_append, br0, br1, br2, br3, zr01, zr02, n10, n01, ne_eq, not_true_eq_false, not_false_eq_true, if_true, if_false, true_and, and_true, and_self]
      unfold ltN at hne ⊢
      by_cases q1 : hel H i = 98
      · simp only [st165_3, st165_4, st165_5, st165_6, st165_7, st165_8, st165_9, st165_10, st165_11, st165_12, st165_13, st165_14, st165_15, st165_16, st165_17, st165_18, st165_19, st165_20, st165_21, st165_22, st165_23, st165_24, st165_25, st165_26, st165_27, st165_28, st165_29, st165_30, st165_31, st165_32, st165_33, st165_34, st165_35, st165_36, st165_37, q1, if_true, hm1, a2, show E i + 1 = E (i + 1) from E_add i 1, n10, aft_some, Option.toList_some, Option.toList_none, List.cons_append, List.nil_append, br0, br1, br2, br3, zr01, zr02, n10, n01, ne_eq, not_true_eq_false, not_false_eq_true, if_true, if_false, true_and, and_true, and_self]
        rfl
      by_cases q2 : hel H i = 110
      · simp only [st165_3, st165_4, st165_5, st165_6, st165_7, st165_8, st165_9, st165_10, st165_11, st165_12, st165_13, st165_14, st165_15, st165_16, st165_17, st165_18, st165_19, st165_20, st165_21, st165_22, st165_23, st165_24, st165_25, st165_26, st165_27, st165_28, st165_29, st165_30, st165_31, st165_32, st165_33, st165_34, st165_35, st165_36, st165_37, q1, q2, if_true, if_false, show ((110 : Int32) = 98) = False from eq_false (by decide), hm1, a2, show E i + 1 = E (i + 1) from E_add i 1, show ((3 : Int32) = 0) = False from eq_false (by decide), aft_some, Option.toList_some, Option.toList_none, List.cons_append, List.nil_append, br0, br1, br2, br3, zr01, zr02, n10, n01, ne_eq, not_true_eq_false, not_false_eq_true, if_true, if_false, true_and, and_true, and_self]
        rfl
      by_cases q3 : hel H i = 114
      · simp only [st165_3, st165_4, st165_5, st165_6, st165_7, st165_8, st165_9, st165_10, st165_11, st165_12, st165_13, st165_14, st165_15, st165_16, st165_17, st165_18, st165_19, st165_20, st165_21, st165_22, st165_23, st165_24, st165_25, st165_26, st165_27, st165_28, st165_29, st165_30, st165_31, st165_32, st165_33, st165_34, st165_35, st165_36, st165_37, q3, if_true, if_false, show ((114 : Int32) = 98) = False from eq_false (by decide), show ((114 : Int32) = 110) = False from eq_false (by decide), show ((114 : Int32) = 111) = False from eq_false (by decide), hm1, a2, show E i + 1 = E (i + 1) from E_add i 1, show ((2 : Int32) = 0) = False from eq_false (by decide), aft_some, Option.toList_some, Option.toList_none, List.cons_append, List.nil_append, br0, br1, br2, br3, zr01, zr02, n10, n01, ne_eq, not_true_eq_false, not_false_eq_true, if_true, if_false, true_and, and_true, and_self]
        rfl
      by_cases q4 : hel H i = 111
      · simp only [st165_3, st165_4, st165_5, st165_6, st165_7, st165_8, st165_9, st165_10, st165_11, st165_12, st165_13, st165_14, st165_15, st165_16, st165_17, st165_18, st165_19, st165_20, st165_21, st165_22, st165_23, st165_24, st165_25, st165_26, st165_27, st165_28, st165_29, st165_30, st165_31, st165_32, st165_33, st165_34, st165_35, st165_36, st165_37, q4, if_true, if_false, show ((111 : Int32) = 98) = False from eq_false (by decide), show ((111 : Int32) = 110) = False from eq_false (by decide), show ((111 : Int32) = 114) = False from eq_false (by decide), hm1, a2, show E i + 1 = E (i + 1) from E_add i 1, show ((2 : Int32) = 0) = False from eq_false (by decide), aft_some, Option.toList_some, Option.toList_none, List.cons_append, List.nil_append, br0, br1, br2, br3, zr01, zr02, n10, n01, ne_eq, not_true_eq_false, not_false_eq_true, if_true, if_false, true_and, and_true, and_self]
        rfl
      by_cases q5 : hel H i = 120
      · simp only [st165_3, st165_4, st165_5, st165_6, st165_7, st165_8, st165_9, st165_10, st165_11, st165_12, st165_13, st165_14, st165_15, st165_16, st165_17, st165_18, st165_19, st165_20, st165_21, st165_22, st165_23, st165_24, st165_25, st165_26, st165_27, st165_28, st165_29, st165_30, st165_31, st165_32, st165_33, st165_34, st165_35, st165_36, st165_37, q5, if_true, if_false, show ((120 : Int32) = 98) = False from eq_false (by decide), show ((120 : Int32) = 110) = False from eq_false (by decide), show ((120 : Int32) = 114) = False from eq_false (by decide), show ((120 : Int32) = 111) = False from eq_false (by decide), hm1, a2, show E i + 1 = E (i + 1) from E_add i 1, show ((2 : Int32) = 0) = False from eq_false (by decide), aft_some, Option.toList_some, Option.toList_none, List.cons_append, List.nil_append, br0, br1, br2, br3, zr01, zr02, n10, n01, ne_eq, not_true_eq_false, not_false_eq_true, if_true, if_false, true_and, and_true, and_self]
        rfl
      · simp only [q1, q2, q3, q4, q5, if_false] at hne
        exact absurd rfl hne
    have t1 : tg (seti μ 69 12 (E (i + 1))) 69 = 12 := hm1
    cases hd : dF (hel H) (hsz H) (ltN (hel H i)) (i + 1) with
    | some p =>
      have es : stF (hel H) (hsz H) i = Sum.inl p := by unfold stF; rw [if_pos c, hd]
      rw [hd] at b1
      refine ⟨μ1, ?_, fun p' h => (by rw [es] at h; cases h; exact b2 p hd), fun j h => (by rw [es] at h; cases h)⟩
      rw [es]
      show rn (d + 2) 165 0 [some (Sum.inr (Sum.inl (69))), none, none] [] μ = _
      rw [hd8]
      simp only [st165_38, st165_39, st165_40, st165_41, st165_42, st165_43, st165_44, st165_45, t1, b1, true_or, aft_some, Option.toList_some, Option.toList_none, List.cons_append, List.nil_append, br0, br1, br2, br3, zr01, zr02, n10, n01, ne_eq, not_true_eq_false, not_false_eq_true, if_true, if_false, true_and, and_true, and_self]
    | none =>
      rw [hd] at b1
      obtain ⟨g1, g2⟩ := b3 hd
      have hle : i + 1 + ltN (hel H i) ≤ hsz H := by
        have := (dF_n _ _ hd (ltN (hel H i) - 1) (by have := c.2; omega)).1
        omega
      have e163' := fun d => f163 (d := d) he hm hH hM g1 hle
      have hm9 := (hm.sb g1.1).1
      have es : stF (hel H) (hsz H) i = if i + 1 + ltN (hel H i) < hsz H ∧ hel H (i + 1 + ltN (hel H i)) = 59 then Sum.inr (i + 2 + ltN (hel H i)) else Sum.inl (i + 1 + ltN (hel H i)) := by unfold stF; rw [if_pos c, hd]
      by_cases c2 : i + 1 + ltN (hel H i) < hsz H ∧ hel H (i + 1 + ltN (hel H i)) = 59
      · rw [if_pos c2] at es
        have hP3 := g1.at (i + 2 + ltN (hel H i))
        have eq2 : E (i + 1 + ltN (hel H i)) + 1 = E (i + 2 + ltN (hel H i)) := by rw [show (1 : Int32) = E 1 from rfl, E_add]; congr 1; omega
        refine ⟨seti μ1 69 12 (E (i + 2 + ltN (hel H i))), ?_, fun p h => (by rw [es] at h; cases h), fun j h => (by rw [es] at h; cases h; exact ⟨hP3, fun s hs => by rw [gi_seti, if_neg (by omega)]; exact g2 s hs⟩)⟩
        rw [es]
        show rn (d + 2) 165 0 [some (Sum.inr (Sum.inl (69))), none, none] [] μ = _
        rw [hd8]
        simp only [st165_38, st165_39, st165_40, st165_41, st165_42, st165_43, st165_44, st165_45, st165_46, st165_47, st165_48, st165_49, st165_50, st165_51, st165_52, st165_53, t1, b1, hm9, e163', c2.1, c2.2, g1.2.1, eq2, or_true, aft_some, Option.toList_some, Option.toList_none, List.cons_append, List.nil_append, br0, br1, br2, br3, zr01, zr02, n10, n01, ne_eq, not_true_eq_false, not_false_eq_true, if_true, if_false, true_and, and_true, and_self]
      · rw [if_neg c2] at es
        refine ⟨μ1, ?_, fun p h => (by rw [es] at h; cases h; exact g1), fun j h => (by rw [es] at h; cases h)⟩
        rw [es]
        show rn (d + 2) 165 0 [some (Sum.inr (Sum.inl (69))), none, none] [] μ = _
        rw [hd8]
        by_cases c3 : i + 1 + ltN (hel H i) < hsz H
        · have c4 : ¬ hel H (i + 1 + ltN (hel H i)) = 59 := fun h => c2 ⟨c3, h⟩
          simp only [st165_38, st165_39, st165_40, st165_41, st165_42, st165_43, st165_44, st165_45, t1, b1, hm9, e163', c3, c4, true_or, aft_some, Option.toList_some, Option.toList_none, List.cons_append, List.nil_append, br0, br1, br2, br3, zr01, zr02, n10, n01, ne_eq, not_true_eq_false, not_false_eq_true, if_true, if_false, true_and, and_true, and_self]
        · simp only [st165_38, st165_39, st165_40, st165_41, st165_42, st165_43, st165_44, st165_45, t1, b1, hm9, e163', c3, show ((-1000 : Int32) = 59) = False from eq_false (by decide), true_or, aft_some, Option.toList_some, Option.toList_none, List.cons_append, List.nil_append, br0, br1, br2, br3, zr01, zr02, n10, n01, ne_eq, not_true_eq_false, not_false_eq_true, if_true, if_false, true_and, and_true, and_self]
  · have es : stF (hel H) (hsz H) i = Sum.inl i := by unfold stF; rw [if_neg c]
    refine ⟨μ, ?_, fun p h => (by rw [es] at h; cases h; exact hP), fun j h => (by rw [es] at h; cases h)⟩
    rw [es]
    show rn (d + 2) 165 0 [some (Sum.inr (Sum.inl (69))), none, none] [] μ = _
    by_cases c1 : i < hsz H
    · have c2 : ltN (hel H i) = 0 := by
        by_cases q : ltN (hel H i) = 0
        · exact q
        · exact absurd ⟨c1, q⟩ c
      have ne : ¬ hel H i = 98 ∧ ¬ hel H i = 110 ∧ ¬ hel H i = 111 ∧ ¬ hel H i = 114 ∧ ¬ hel H i = 120 := by
        refine ⟨fun q => ?_, fun q => ?_, fun q => ?_, fun q => ?_, fun q => ?_⟩ <;> rw [q] at c2 <;> exact absurd c2 (by decide)
      obtain ⟨n1, n2, n3, n4, n5⟩ := ne
      simp only [st165_0, st165_1, st165_2, st165_3, st165_4, st165_5, st165_6, st165_7, st165_8, st165_9, st165_10, st165_11, st165_12, st165_13, st165_14, st165_15, st165_16, st165_17, st165_18, st165_19, st165_20, st165_21, st165_22, st165_23, st165_24, st165_25, st165_26, st165_27, st165_28, st165_29, hm1, e163, c1, n1, n2, n3, n4, n5, true_or, aft_some, Option.toList_some, Option.toList_none, List.cons_append, List.nil_append, br0, br1, br2, br3, zr01, zr02, n10, n01, ne_eq, not_true_eq_false, not_false_eq_true, if_true, if_false, true_and, and_true, and_self]
    · simp only [st165_0, st165_1, st165_2, st165_3, st165_4, st165_5, st165_6, st165_7, st165_8, st165_9, st165_10, st165_11, st165_12, st165_13, st165_14, st165_15, st165_16, st165_17, st165_18, st165_19, st165_20, st165_21, st165_22, st165_23, st165_24, st165_25, st165_26, st165_27, st165_28, st165_29, hm1, e163, c1, show ((-1000 : Int32) = 98) = False from eq_false (by decide), show ((-1000 : Int32) = 110) = False from eq_false (by decide), show ((-1000 : Int32) = 114) = False from eq_false (by decide), show ((-1000 : Int32) = 111) = False from eq_false (by decide), show ((-1000 : Int32) = 120) = False from eq_false (by decide), true_or, aft_some, Option.toList_some, Option.toList_none, List.cons_append, List.nil_append, br0, br1, br2, br3, zr01, zr02, n10, n01, ne_eq, not_true_eq_false, not_false_eq_true, if_true, if_false, true_and, and_true, and_self]
