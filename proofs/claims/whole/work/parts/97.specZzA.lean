/-! SPECS ZZA: a town's text -/
def ltN (v : Int32) : Nat := if v = 98 then 1 else if v = 110 then 3 else if v = 111 then 2 else if v = 114 then 2 else if v = 120 then 2 else 0
theorem ltN_le (v : Int32) : ltN v ≤ 3 := by unfold ltN; split <;> first | omega | (split <;> first | omega | (split <;> first | omega | (split <;> first | omega | (split <;> omega))))
def ltr (v : Int32) : Int32 := if v = 98 then 1 else if v = 110 then 3 else if v = 111 then 2 else if v = 114 then 2 else if v = 120 then 2 else -1
theorem ltr_N (v : Int32) : ltr v = if ltN v = 0 then -1 else E (ltN v) := by
  unfold ltr ltN
  by_cases a : v = 98
  · simp only [a, if_true]; rfl
  by_cases b : v = 110
  · subst b; rfl
  by_cases c : v = 111
  · subst c; rfl
  by_cases d : v = 114
  · subst d; rfl
  by_cases e : v = 120
  · subst e; rfl
  · simp only [a, b, c, d, e, if_false, if_true]
theorem f119 {d : Nat} {v : Int32} {μ : SMem} : cl d 119 [Sum.inl (v)] μ = some (Sum.inl (some (Sum.inl (ltr v))), μ) := by
  show rn d 119 0 [some (Sum.inl (v))] [] μ = _
  unfold ltr
  by_cases a : v = 98
  · simp only [st119_0, st119_1, st119_2, st119_3, st119_4, st119_5, st119_6, st119_7, st119_8, st119_9, st119_10, st119_11, st119_12, st119_13, a, if_true]
  by_cases b : v = 110
  · simp only [st119_0, st119_1, st119_2, st119_3, st119_4, st119_5, st119_6, st119_7, st119_8, st119_9, st119_10, st119_11, st119_12, st119_13, a, b, if_true, if_false]
    simp only [show ((110 : Int32) = 98) = False from eq_false (by decide), if_false]
  by_cases c : v = 111
  · simp only [st119_0, st119_1, st119_2, st119_3, st119_4, st119_5, st119_6, st119_7, st119_8, st119_9, st119_10, st119_11, st119_12, st119_13, a, b, c, if_true, if_false]
    simp only [show ((111 : Int32) = 98) = False from eq_false (by decide), show ((111 : Int32) = 110) = False from eq_false (by decide), if_false]
  by_cases e : v = 114
  · simp only [st119_0, st119_1, st119_2, st119_3, st119_4, st119_5, st119_6, st119_7, st119_8, st119_9, st119_10, st119_11, st119_12, st119_13, a, b, c, e, if_true, if_false]
    simp only [show ((114 : Int32) = 98) = False from eq_false (by decide), show ((114 : Int32) = 110) = False from eq_false (by decide), show ((114 : Int32) = 111) = False from eq_false (by decide), if_false]
  by_cases f : v = 120
  · simp only [st119_0, st119_1, st119_2, st119_3, st119_4, st119_5, st119_6, st119_7, st119_8, st119_9, st119_10, st119_11, st119_12, st119_13, a, b, c, e, f, if_true, if_false]
    simp only [show ((120 : Int32) = 98) = False from eq_false (by decide), show ((120 : Int32) = 110) = False from eq_false (by decide), show ((120 : Int32) = 111) = False from eq_false (by decide), show ((120 : Int32) = 114) = False from eq_false (by decide), if_false]
  · simp only [st119_0, st119_1, st119_2, st119_3, st119_4, st119_5, st119_6, st119_7, st119_8, st119_9, st119_10, st119_11, st119_12, st119_13, a, b, c, e, f, if_true, if_false]
def dF (el : Nat → Int32) (n : Nat) : Nat → Nat → Option Nat
  | 0, _ => none
  | k + 1, i => if i < n ∧ 48 ≤ el i ∧ el i ≤ 57 then dF el n k (i + 1) else some i
theorem dF_s {el : Nat → Int32} {n : Nat} (k i : Nat) : dF el n (k + 1) i = if i < n ∧ 48 ≤ el i ∧ el i ≤ 57 then dF el n k (i + 1) else some i := rfl
theorem dF_n {el : Nat → Int32} {n : Nat} : ∀ k i, dF el n k i = none → ∀ s, s < k → i + s < n ∧ 48 ≤ el (i + s) ∧ el (i + s) ≤ 57 := by
  intro k
  induction k with
  | zero => intro i _ s hs; omega
  | succ k ih =>
    intro i h s hs
    rw [dF_s] at h
    by_cases c : i < n ∧ 48 ≤ el i ∧ el i ≤ 57
    · rw [if_pos c] at h
      cases s with
      | zero => exact c
      | succ s =>
        have := ih (i + 1) h s (by omega)
        rw [show i + 1 + s = i + (s + 1) by omega] at this
        exact this
    · rw [if_neg c] at h; cases h
theorem dF_p {el : Nat → Int32} {n p : Nat} : ∀ k i, i ≤ n → dF el n k i = some p → i ≤ p ∧ p ≤ n := by
  intro k
  induction k with
  | zero => intro i _ h; cases h
  | succ k ih =>
    intro i hi h
    rw [dF_s] at h
    by_cases c : i < n ∧ 48 ≤ el i ∧ el i ≤ 57
    · rw [if_pos c] at h
      have := ih (i + 1) (by omega) h
      omega
    · rw [if_neg c] at h; cases h; omega
def stF (el : Nat → Int32) (n i : Nat) : Nat ⊕ Nat := if i < n ∧ ltN (el i) ≠ 0 then (match dF el n (ltN (el i)) (i + 1) with | some p => Sum.inl p | none => if i + 1 + ltN (el i) < n ∧ el (i + 1 + ltN (el i)) = 59 then Sum.inr (i + 2 + ltN (el i)) else Sum.inl (i + 1 + ltN (el i))) else Sum.inl i
theorem stF_r {el : Nat → Int32} {n i j : Nat} (h : stF el n i = Sum.inr j) : i < n ∧ ltN (el i) ≠ 0 ∧ dF el n (ltN (el i)) (i + 1) = none ∧ i + 1 + ltN (el i) < n ∧ el (i + 1 + ltN (el i)) = 59 ∧ j = i + 2 + ltN (el i) := by
  unfold stF at h
  by_cases c : i < n ∧ ltN (el i) ≠ 0
  · rw [if_pos c] at h
    cases hd : dF el n (ltN (el i)) (i + 1) with
    | some p => rw [hd] at h; cases h
    | none =>
      rw [hd] at h
      have h' : (if i + 1 + ltN (el i) < n ∧ el (i + 1 + ltN (el i)) = 59 then (Sum.inr (i + 2 + ltN (el i)) : Nat ⊕ Nat) else Sum.inl (i + 1 + ltN (el i))) = Sum.inr j := h
      by_cases c2 : i + 1 + ltN (el i) < n ∧ el (i + 1 + ltN (el i)) = 59
      · rw [if_pos c2] at h'; cases h'; exact ⟨c.1, c.2, rfl, c2.1, c2.2, rfl⟩
      · rw [if_neg c2] at h'; cases h'
  · rw [if_neg c] at h; cases h
def ff (el : Nat → Int32) (n : Nat) : Nat → Nat → Option Nat × Nat
  | 0, _ => (none, 0)
  | m + 1, i => match stF el n i with | Sum.inl p => (some p, 0) | Sum.inr j => if n ≤ j then (none, 1) else ((ff el n m j).1, (ff el n m j).2 + 1)
theorem ff_l {el : Nat → Int32} {n m i p : Nat} (h : stF el n i = Sum.inl p) : ff el n (m + 1) i = (some p, 0) := by unfold ff; rw [h]
theorem ff_r {el : Nat → Int32} {n m i j : Nat} (h : stF el n i = Sum.inr j) : ff el n (m + 1) i = if n ≤ j then (none, 1) else ((ff el n m j).1, (ff el n m j).2 + 1) := by rw [ff, h]
/-! the class reads the form -/
theorem f120_d {d e : Nat} {H : HT} {μ : SMem} (he : e < 8) (hc : CAo μ) (hH : HWF H) (hC : ShC μ e H) (hk : hkt H = 2) : ∀ k i (u4 : Option SV), k ≤ 3 → i ≤ hsz H → (∀ p, dF (hel H) (hsz H) k i = some p → rn (d + 1) 120 6 [some (Sum.inr (Sum.inl (53 + 2 * e))), some (Sum.inl (1)), some (Sum.inl (E k)), some (Sum.inl (E i)), u4] [] μ = some (Sum.inl (some (Sum.inl (E p))), μ)) ∧ (dF (hel H) (hsz H) k i = none → ∃ u4', rn (d + 1) 120 6 [some (Sum.inr (Sum.inl (53 + 2 * e))), some (Sum.inl (1)), some (Sum.inl (E k)), some (Sum.inl (E i)), u4] [] μ = rn (d + 1) 120 6 [some (Sum.inr (Sum.inl (53 + 2 * e))), some (Sum.inl (1)), some (Sum.inl (E 0)), some (Sum.inl (E (i + k))), u4'] [] μ) := by
  have t8 := (hc.2.2.2.2.2.2.2.2.2.2.2 e he).2.1
  have x4 := (hC.2.1 hk).2.2.2
  have hn := hH.2.2.1
  intro k
  induction k with
  | zero => intro i u4 _ _; exact ⟨(fun p h => by cases h), fun _ => ⟨u4, rfl⟩⟩
  | succ k ih =>
    intro i u4 hk3 hi
    rw [dF_s]
    by_cases c1 : i < hsz H
    · have l1 : (E (hsz H) ≤ E i) = False := by rw [E_leE (by omega) (by omega)]; exact eq_false (by omega)
      have cc : (0 ≤ E i ∧ E i < E (hsz H)) = True := eq_true ((inr (by omega) (by omega)).mpr c1)
      have lk : (E (k + 1) ≤ 0) = False := by rw [show (0 : Int32) = E 0 from rfl, E_leE (by omega) (by omega)]; exact eq_false (by omega)
      by_cases c2 : 48 ≤ hel H i ∧ hel H i ≤ 57
      · have n48 : ¬ hel H i < 48 := Int32.not_lt.mpr c2.1
        obtain ⟨i1, i2⟩ := ih (i + 1) (some (Sum.inl (hel H i))) (by omega) (by omega)
        rw [if_pos ⟨c1, c2⟩]
        have e1 : rn (d + 1) 120 6 [some (Sum.inr (Sum.inl (53 + 2 * e))), some (Sum.inl (1)), some (Sum.inl (E (k + 1))), some (Sum.inl (E i)), u4] [] μ = rn (d + 1) 120 6 [some (Sum.inr (Sum.inl (53 + 2 * e))), some (Sum.inl (1)), some (Sum.inl (E k)), some (Sum.inl (E (i + 1))), some (Sum.inl (hel H i))] [] μ := by
          rw [st120_6]
          simp only [st120_7, st120_8, st120_9, st120_10, st120_11, st120_12, st120_13, st120_14, st120_15, st120_16, st120_17, st120_18, st120_19, st120_20, st120_21, st120_22, st120_23, st120_24, st120_25, st120_26, st120_27, st120_28, st120_29, st120_30, st120_31, st120_32, st120_33, st120_34, st120_35, st120_36, st120_37, st120_38, st120_39, st120_40, st120_41, st120_42, st120_43, st120_44, st120_45, st120_46, t8, x4, l1, f57 he hc hH hC hk, cc, E_n (show i < 1000 by omega), lk, n48, c2, E_p1, E_m1 (show 1 ≤ k + 1 by omega), Nat.add_sub_cancel, show E i + 1 = E (i + 1) from E_add i 1, aft_some, Option.toList_some, Option.toList_none, List.cons_append, List.nil_append, br0, br1, br2, br3, zr01, zr02, n10, n01, ne_eq, not_true_eq_false, not_false_eq_true, if_true, if_false, true_and, and_true, and_self]
        refine ⟨fun p h => by rw [e1]; exact i1 p h, fun h => ?_⟩
        obtain ⟨u', hu'⟩ := i2 h
        exact ⟨u', by rw [e1, hu', show i + 1 + k = i + (k + 1) by omega]⟩
      · rw [if_neg (fun h => c2 h.2)]
        refine ⟨fun p h => ?_, fun h => by cases h⟩
        cases h
        rw [st120_6]
        by_cases n48 : hel H i < 48
        · simp only [st120_7, st120_8, st120_9, st120_10, st120_11, st120_12, st120_13, st120_14, st120_15, st120_16, st120_17, st120_18, st120_19, st120_20, st120_21, st120_22, st120_23, st120_24, st120_25, st120_26, st120_27, st120_28, st120_29, st120_30, st120_31, st120_32, st120_33, st120_34, st120_35, st120_36, st120_37, st120_38, st120_39, st120_40, st120_41, st120_42, st120_43, st120_44, st120_45, st120_46, t8, x4, l1, f57 he hc hH hC hk, cc, E_n (show i < 1000 by omega), lk, n48, aft_some, Option.toList_some, Option.toList_none, List.cons_append, List.nil_append, br0, br1, br2, br3, zr01, zr02, n10, n01, ne_eq, not_true_eq_false, not_false_eq_true, if_true, if_false, true_and, and_true, and_self]
        · have n57 : ¬ hel H i ≤ 57 := fun h => c2 ⟨Int32.not_lt.mp n48, h⟩
          simp only [st120_7, st120_8, st120_9, st120_10, st120_11, st120_12, st120_13, st120_14, st120_15, st120_16, st120_17, st120_18, st120_19, st120_20, st120_21, st120_22, st120_23, st120_24, st120_25, st120_26, st120_27, st120_28, st120_29, st120_30, st120_31, st120_32, st120_33, st120_34, st120_35, st120_36, st120_37, st120_38, st120_39, st120_40, st120_41, st120_42, st120_43, st120_44, st120_45, st120_46, t8, x4, l1, f57 he hc hH hC hk, cc, E_n (show i < 1000 by omega), lk, n48, n57, aft_some, Option.toList_some, Option.toList_none, List.cons_append, List.nil_append, br0, br1, br2, br3, zr01, zr02, n10, n01, ne_eq, not_true_eq_false, not_false_eq_true, if_true, if_false, true_and, and_true, and_self]
    · have : i = hsz H := by omega
      rw [if_neg (fun h => c1 h.1)]
      refine ⟨fun p h => ?_, fun h => by cases h⟩
      cases h
      rw [st120_6]
      simp only [st120_7, st120_8, st120_9, st120_47, st120_48, st120_49, st120_50, st120_51, st120_52, st120_53, st120_54, st120_55, st120_56, t8, x4, this, Int32.le_refl, aft_some, Option.toList_some, Option.toList_none, List.cons_append, List.nil_append, br0, br1, br2, br3, zr01, zr02, n10, n01, ne_eq, not_true_eq_false, not_false_eq_true, if_true, if_false, true_and, and_true, and_self]
theorem f120_c {d e i : Nat} {H : HT} {u4 : Option SV} {μ : SMem} (he : e < 8) (hc : CAo μ) (hH : HWF H) (hC : ShC μ e H) (hk : hkt H = 2) (hi : i ≤ hsz H) : (i < hsz H ∧ hel H i = 59 → ∃ u4', rn (d + 1) 120 6 [some (Sum.inr (Sum.inl (53 + 2 * e))), some (Sum.inl (1)), some (Sum.inl (E 0)), some (Sum.inl (E i)), u4] [] μ = rn (d + 1) 120 6 [some (Sum.inr (Sum.inl (53 + 2 * e))), some (Sum.inl (0)), some (Sum.inl (E 0)), some (Sum.inl (E (i + 1))), u4'] [] μ) ∧ (¬ (i < hsz H ∧ hel H i = 59) → rn (d + 1) 120 6 [some (Sum.inr (Sum.inl (53 + 2 * e))), some (Sum.inl (1)), some (Sum.inl (E 0)), some (Sum.inl (E i)), u4] [] μ = some (Sum.inl (some (Sum.inl (E i))), μ)) := by
  have t8 := (hc.2.2.2.2.2.2.2.2.2.2.2 e he).2.1
  have x4 := (hC.2.1 hk).2.2.2
  have hn := hH.2.2.1
  by_cases c1 : i < hsz H
  · have l1 : (E (hsz H) ≤ E i) = False := by rw [E_leE (by omega) (by omega)]; exact eq_false (by omega)
    have cc : (0 ≤ E i ∧ E i < E (hsz H)) = True := eq_true ((inr (by omega) (by omega)).mpr c1)
    have lk : (E 0 ≤ (0 : Int32)) = True := eq_true (by decide)
    by_cases c2 : hel H i = 59
    · refine ⟨fun _ => ⟨some (Sum.inl 59), ?_⟩, fun h => absurd ⟨c1, c2⟩ h⟩
      rw [st120_6]
      simp only [st120_7, st120_8, st120_9, st120_10, st120_11, st120_12, st120_13, st120_14, st120_15, st120_16, st120_17, st120_18, st120_19, st120_20, st120_21, st120_22, st120_23, st120_24, st120_25, st120_26, st120_27, st120_28, st120_29, st120_30, st120_31, st120_32, st120_33, st120_34, st120_35, st120_36, st120_37, st120_38, st120_39, st120_40, st120_41, st120_42, st120_43, st120_44, st120_45, st120_46, t8, x4, l1, f57 he hc hH hC hk, cc, E_n (show i < 1000 by omega), lk, c2, show E i + 1 = E (i + 1) from E_add i 1, aft_some, Option.toList_some, Option.toList_none, List.cons_append, List.nil_append, br0, br1, br2, br3, zr01, zr02, n10, n01, ne_eq, not_true_eq_false, not_false_eq_true, if_true, if_false, true_and, and_true, and_self]
    · refine ⟨fun h => absurd h.2 c2, fun _ => ?_⟩
      rw [st120_6]
      simp only [st120_7, st120_8, st120_9, st120_10, st120_11, st120_12, st120_13, st120_14, st120_15, st120_16, st120_17, st120_18, st120_19, st120_20, st120_21, st120_22, st120_23, st120_24, st120_25, st120_26, st120_27, st120_28, st120_29, st120_30, st120_31, st120_32, st120_33, st120_34, st120_35, st120_36, st120_37, st120_38, st120_39, st120_40, st120_41, st120_42, st120_43, st120_44, st120_45, st120_46, t8, x4, l1, f57 he hc hH hC hk, cc, E_n (show i < 1000 by omega), lk, c2, aft_some, Option.toList_some, Option.toList_none, List.cons_append, List.nil_append, br0, br1, br2, br3, zr01, zr02, n10, n01, ne_eq, not_true_eq_false, not_false_eq_true, if_true, if_false, true_and, and_true, and_self]
  · have : i = hsz H := by omega
    refine ⟨fun h => absurd h.1 c1, fun _ => ?_⟩
    rw [st120_6]
    simp only [st120_7, st120_8, st120_9, st120_47, st120_48, st120_49, st120_50, st120_51, st120_52, st120_53, st120_54, st120_55, st120_56, t8, x4, this, Int32.le_refl, aft_some, Option.toList_some, Option.toList_none, List.cons_append, List.nil_append, br0, br1, br2, br3, zr01, zr02, n10, n01, ne_eq, not_true_eq_false, not_false_eq_true, if_true, if_false, true_and, and_true, and_self]
theorem f120_s {d e i : Nat} {x2 : Int32} {H : HT} {u4 : Option SV} {μ : SMem} (he : e < 8) (hc : CAo μ) (hH : HWF H) (hC : ShC μ e H) (hk : hkt H = 2) (hi : i < hsz H) : (∀ p, stF (hel H) (hsz H) i = Sum.inl p → rn (d + 1) 120 6 [some (Sum.inr (Sum.inl (53 + 2 * e))), some (Sum.inl (0)), some (Sum.inl (x2)), some (Sum.inl (E i)), u4] [] μ = some (Sum.inl (some (Sum.inl (E p))), μ)) ∧ (∀ j, stF (hel H) (hsz H) i = Sum.inr j → ∃ x2' u4', rn (d + 1) 120 6 [some (Sum.inr (Sum.inl (53 + 2 * e))), some (Sum.inl (0)), some (Sum.inl (x2)), some (Sum.inl (E i)), u4] [] μ = rn (d + 1) 120 6 [some (Sum.inr (Sum.inl (53 + 2 * e))), some (Sum.inl (0)), some (Sum.inl (x2')), some (Sum.inl (E j)), u4'] [] μ) := by
  have t8 := (hc.2.2.2.2.2.2.2.2.2.2.2 e he).2.1
  have x4 := (hC.2.1 hk).2.2.2
  have hn := hH.2.2.1
  have l1 : (E (hsz H) ≤ E i) = False := by rw [E_leE (by omega) (by omega)]; exact eq_false (by omega)
  have cc : (0 ≤ E i ∧ E i < E (hsz H)) = True := eq_true ((inr (by omega) (by omega)).mpr hi)
  have lN := ltN_le (hel H i)
  have er := ltr_N (hel H i)
  by_cases c : ltN (hel H i) = 0
  · have es : stF (hel H) (hsz H) i = Sum.inl i := by unfold stF; rw [if_neg (fun h => h.2 c)]
    rw [if_pos c] at er
    refine ⟨fun p h => ?_, fun j h => by rw [es] at h; cases h⟩
    rw [es] at h; cases h
    rw [st120_6]
    simp only [st120_7, st120_8, st120_9, st120_10, st120_11, st120_12, st120_13, st120_14, st120_15, st120_16, st120_17, st120_18, st120_19, st120_20, st120_21, st120_22, st120_23, st120_24, st120_25, t8, x4, l1, f57 he hc hH hC hk, cc, E_n (show i < 1000 by omega), f119, er, show ((0 : Int32) ≤ -1) = False from eq_false (by decide), aft_some, Option.toList_some, Option.toList_none, List.cons_append, List.nil_append, br0, br1, br2, br3, zr01, zr02, n10, n01, ne_eq, not_true_eq_false, not_false_eq_true, if_true, if_false, true_and, and_true, and_self]
  · rw [if_neg c] at er
    have e1 : rn (d + 1) 120 6 [some (Sum.inr (Sum.inl (53 + 2 * e))), some (Sum.inl (0)), some (Sum.inl (x2)), some (Sum.inl (E i)), u4] [] μ = rn (d + 1) 120 6 [some (Sum.inr (Sum.inl (53 + 2 * e))), some (Sum.inl (1)), some (Sum.inl (E (ltN (hel H i)))), some (Sum.inl (E (i + 1))), some (Sum.inl (hel H i))] [] μ := by
      rw [st120_6]
      simp only [st120_7, st120_8, st120_9, st120_10, st120_11, st120_12, st120_13, st120_14, st120_15, st120_16, st120_17, st120_18, st120_19, st120_20, st120_21, st120_22, st120_23, st120_24, st120_25, st120_45, st120_46, t8, x4, l1, f57 he hc hH hC hk, cc, E_n (show i < 1000 by omega), f119, er, E_ge0 (show ltN (hel H i) < 1000 by omega), show E i + 1 = E (i + 1) from E_add i 1, aft_some, Option.toList_some, Option.toList_none, List.cons_append, List.nil_append, br0, br1, br2, br3, zr01, zr02, n10, n01, ne_eq, not_true_eq_false, not_false_eq_true, if_true, if_false, true_and, and_true, and_self]
    obtain ⟨d1, d2⟩ := f120_d (d := d) he hc hH hC hk (ltN (hel H i)) (i + 1) (some (Sum.inl (hel H i))) lN (by omega)
    cases hd : dF (hel H) (hsz H) (ltN (hel H i)) (i + 1) with
    | some p =>
      have es : stF (hel H) (hsz H) i = Sum.inl p := by unfold stF; rw [if_pos ⟨hi, c⟩, hd]
      refine ⟨fun p' h => ?_, fun j h => by rw [es] at h; cases h⟩
      rw [es] at h; cases h
      rw [e1]; exact d1 p hd
    | none =>
      obtain ⟨u', hu'⟩ := d2 hd
      have hle : i + 1 + ltN (hel H i) ≤ hsz H := by
        have := (dF_n _ _ hd (ltN (hel H i) - 1) (by omega)).1
        omega
      obtain ⟨g1, g2⟩ := f120_c (d := d) (i := i + 1 + ltN (hel H i)) (u4 := u') he hc hH hC hk hle
      have es : stF (hel H) (hsz H) i = if i + 1 + ltN (hel H i) < hsz H ∧ hel H (i + 1 + ltN (hel H i)) = 59 then Sum.inr (i + 2 + ltN (hel H i)) else Sum.inl (i + 1 + ltN (hel H i)) := by unfold stF; rw [if_pos ⟨hi, c⟩, hd]
      by_cases c2 : i + 1 + ltN (hel H i) < hsz H ∧ hel H (i + 1 + ltN (hel H i)) = 59
      · rw [if_pos c2] at es
        obtain ⟨u2, hu2⟩ := g1 c2
        refine ⟨(fun p h => by rw [es] at h; cases h), fun j h => ?_⟩
        rw [es] at h; cases h
        exact ⟨E 0, u2, by rw [e1, hu', hu2, show i + 1 + ltN (hel H i) + 1 = i + 2 + ltN (hel H i) by omega]⟩
      · rw [if_neg c2] at es
        refine ⟨fun p h => ?_, fun j h => by rw [es] at h; cases h⟩
        rw [es] at h; cases h
        rw [e1, hu', g2 c2]
def ffR (r : Option Nat) : Int32 := match r with | some p => E p | none => -4
theorem f120_l {d e : Nat} {H : HT} {μ : SMem} (he : e < 8) (hc : CAo μ) (hH : HWF H) (hC : ShC μ e H) (hk : hkt H = 2) : ∀ m i (x2 : Int32) (u4 : Option SV), i < hsz H → hsz H < i + m → rn (d + 1) 120 6 [some (Sum.inr (Sum.inl (53 + 2 * e))), some (Sum.inl (0)), some (Sum.inl (x2)), some (Sum.inl (E i)), u4] [] μ = some (Sum.inl (some (Sum.inl (ffR (ff (hel H) (hsz H) m i).1))), μ) := by
  have t8 := (hc.2.2.2.2.2.2.2.2.2.2.2 e he).2.1
  have x4 := (hC.2.1 hk).2.2.2
  have hn := hH.2.2.1
  intro m
  induction m with
  | zero => intro i x2 u4 hi hm; omega
  | succ m ih =>
    intro i x2 u4 hi hm
    obtain ⟨s1, s2⟩ := f120_s (d := d) (x2 := x2) (u4 := u4) he hc hH hC hk hi
    cases hs : stF (hel H) (hsz H) i with
    | inl p => rw [ff_l hs]; exact s1 p hs
    | inr j =>
      obtain ⟨x2', u4', h1⟩ := s2 j hs
      obtain ⟨r1, r2, r3, r4, r5, r6⟩ := stF_r hs
      rw [ff_r hs, h1]
      by_cases c : hsz H ≤ j
      · have : j = hsz H := by omega
        rw [if_pos c, this, st120_6]
        have z0 := E_z (show hsz H < 1000 by omega)
        simp only [st120_7, st120_8, st120_9, st120_47, st120_48, st120_49, st120_50, st120_51, st120_52, st120_53, st120_54, st120_55, st120_56, t8, x4, Int32.le_refl, z0, show ¬ hsz H = 0 by omega, ffR, aft_some, Option.toList_some, Option.toList_none, List.cons_append, List.nil_append, br0, br1, br2, br3, zr01, zr02, n10, n01, ne_eq, not_true_eq_false, not_false_eq_true, if_true, if_false, true_and, and_true, and_self]
      · rw [if_neg c]
        exact ih j x2' u4' (by omega) (by omega)
theorem f120 {d e : Nat} {H : HT} {μ : SMem} (he : e < 8) (hc : CAo μ) (hH : HWF H) (hC : ShC μ e H) (hk : hkt H = 2) : cl (d + 1) 120 [Sum.inr (Sum.inl (53 + 2 * e))] μ = some (Sum.inl (some (Sum.inl (ffR (ff (hel H) (hsz H) (hsz H + 1) 0).1))), μ) := by
  have t8 := (hc.2.2.2.2.2.2.2.2.2.2.2 e he).2.1
  have x4 := (hC.2.1 hk).2.2.2
  show rn (d + 1) 120 0 [some (Sum.inr (Sum.inl (53 + 2 * e))), none, none, none, none] [] μ = _
  by_cases c : hsz H = 0
  · have es : stF (hel H) (hsz H) 0 = Sum.inl 0 := by unfold stF; rw [if_neg (by omega)]
    rw [ff_l es]
    rw [c] at x4
    simp only [st120_0, st120_1, st120_2, st120_3, st120_4, st120_5, st120_6, st120_7, st120_8, st120_9, st120_47, st120_48, st120_49, st120_50, st120_51, st120_52, st120_53, st120_54, st120_55, st120_56, t8, x4, show (E 0 ≤ (0 : Int32)) = True from eq_true (by decide), show (E 0 = (0 : Int32)) = True from eq_true rfl, ffR, aft_some, Option.toList_some, Option.toList_none, List.cons_append, List.nil_append, br0, br1, br2, br3, zr01, zr02, n10, n01, ne_eq, not_true_eq_false, not_false_eq_true, if_true, if_false, true_and, and_true, and_self]
  · simp only [st120_0, st120_1, st120_2, st120_3, st120_4, st120_5]
    exact f120_l he hc hH hC hk (hsz H + 1) 0 0 none (by omega) (by omega)
